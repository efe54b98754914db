set_option maxHeartbeats 4000000 in
theorem k_X8_byteAt (v : Mm) (hI_v : IM v) (a1 : Int32) (h_a1 : (0 : Int) ≤ a1.toInt ∧ a1.toInt ≤ (100 : Int)) : ok (g_X8_byteAt v a1) (fun z => (-1 : Int) ≤ Int32.toInt z ∧ Int32.toInt z ≤ (255 : Int) ∧ (Int32.toInt z = -1 ∨ Int32.toInt a1 < Int32.toInt (v 30 0 6))) := by
  have : ((v 36 0 3).toInt = 0 ∧ (v 36 0 4).toInt = 0) ∨ (0 < (v 36 0 3).toInt ∧ 0 < (v 36 0 4).toInt) := hI_v.2.1
  unfold g_X8_byteAt
  refine ok_ite _ (fun c1 => ?_) (fun c1 => ?_)
  · skip
    have ic1 := i_le c1
    have : (0 : Int) ≤ (v 30 0 6).toInt ∧ (v 30 0 6).toInt ≤ (100 : Int) := hI_v.1 30 0 6
    refine ok_some ?_
    show (-1 : Int) ≤ Int32.toInt (-1 : Int32) ∧ Int32.toInt (-1 : Int32) ≤ (255 : Int) ∧ (Int32.toInt (-1 : Int32) = -1 ∨ Int32.toInt a1 < Int32.toInt (v 30 0 6))
    have : (-1 : Int32).toInt = -1 := (by decide)
    omega
  · skip
    have ic1 := i_nle c1
    have : (0 : Int) ≤ (v 30 0 6).toInt ∧ (v 30 0 6).toInt ≤ (100 : Int) := hI_v.1 30 0 6
    refine ok_grd _ ?_ ?_
    · skip
      exact gr (by omega) (by omega)
    refine ok_some ?_
    show (-1 : Int) ≤ Int32.toInt (v 35 0 (Int32.toNatClampNeg a1)) ∧ Int32.toInt (v 35 0 (Int32.toNatClampNeg a1)) ≤ (255 : Int) ∧ (Int32.toInt (v 35 0 (Int32.toNatClampNeg a1)) = -1 ∨ Int32.toInt a1 < Int32.toInt (v 30 0 6))
    have : (0 : Int) ≤ (v 35 0 (Int32.toNatClampNeg a1)).toInt ∧ (v 35 0 (Int32.toNatClampNeg a1)).toInt ≤ (255 : Int) := hI_v.1 35 0 (Int32.toNatClampNeg a1)
    omega
set_option maxHeartbeats 4000000 in
theorem k_X8_advances (v : Mm) (hI_v : IM v)  : ok (g_X8_advances v ) (fun z => IM z ∧ (Int32.toInt (z 37 0 3) = Int32.toInt (v 37 0 3)) ∧ (Int32.toInt (z 37 0 4) = Int32.toInt (v 37 0 4)) ∧ (Int32.toInt (z 30 0 8) = Int32.toInt (v 30 0 8))) := by
  have : ((v 36 0 3).toInt = 0 ∧ (v 36 0 4).toInt = 0) ∨ (0 < (v 36 0 3).toInt ∧ 0 < (v 36 0 4).toInt) := hI_v.2.1
  have loop38 : ∀ (n38 : Nat) (w38 : Mm) (x1_38 : Int32), (IM w38) → (Int32.toInt (w38 37 0 3) = Int32.toInt (v 37 0 3)) → (Int32.toInt (w38 37 0 4) = Int32.toInt (v 37 0 4)) → (Int32.toInt (w38 30 0 8) = Int32.toInt (v 30 0 8)) → (100 - Int32.toInt (w38 30 0 9) < (n38 : Int)) → ok (g_X8_advances_L38   n38 w38 x1_38) (fun z => IM z ∧ (Int32.toInt (z 37 0 3) = Int32.toInt (v 37 0 3)) ∧ (Int32.toInt (z 37 0 4) = Int32.toInt (v 37 0 4)) ∧ (Int32.toInt (z 30 0 8) = Int32.toInt (v 30 0 8))) := by
    intro n38
    induction n38 with
    | zero =>
      intro w38 x1_38 hI_w38 hv0_38 hv1_38 hv2_38 hm38
      exfalso
      have : (0 : Int) ≤ (w38 37 0 3).toInt ∧ (w38 37 0 3).toInt ≤ (6 : Int) := hI_w38.1 37 0 3
      have : (0 : Int) ≤ (v 37 0 3).toInt ∧ (v 37 0 3).toInt ≤ (6 : Int) := hI_v.1 37 0 3
      have : (0 : Int) ≤ (w38 37 0 4).toInt ∧ (w38 37 0 4).toInt ≤ (4 : Int) := hI_w38.1 37 0 4
      have : (0 : Int) ≤ (v 37 0 4).toInt ∧ (v 37 0 4).toInt ≤ (4 : Int) := hI_v.1 37 0 4
      have : (-1 : Int) ≤ (w38 30 0 8).toInt ∧ (w38 30 0 8).toInt ≤ (100 : Int) := hI_w38.1 30 0 8
      have : (-1 : Int) ≤ (v 30 0 8).toInt ∧ (v 30 0 8).toInt ≤ (100 : Int) := hI_v.1 30 0 8
      have : (0 : Int) ≤ (w38 30 0 9).toInt ∧ (w38 30 0 9).toInt ≤ (100 : Int) := hI_w38.1 30 0 9
      omega
    | succ n38 ih38 =>
      intro w38 x1_38 hI_w38 hv0_38 hv1_38 hv2_38 hm38
      show ok (b_X8_advances_L38  (g_X8_advances_L38   n38)  w38 x1_38) _
      unfold b_X8_advances_L38
      have : ((w38 36 0 3).toInt = 0 ∧ (w38 36 0 4).toInt = 0) ∨ (0 < (w38 36 0 3).toInt ∧ 0 < (w38 36 0 4).toInt) := hI_w38.2.1
      have : (0 : Int) ≤ (w38 37 0 3).toInt ∧ (w38 37 0 3).toInt ≤ (6 : Int) := hI_w38.1 37 0 3
      have : (0 : Int) ≤ (v 37 0 3).toInt ∧ (v 37 0 3).toInt ≤ (6 : Int) := hI_v.1 37 0 3
      have : (0 : Int) ≤ (w38 37 0 4).toInt ∧ (w38 37 0 4).toInt ≤ (4 : Int) := hI_w38.1 37 0 4
      have : (0 : Int) ≤ (v 37 0 4).toInt ∧ (v 37 0 4).toInt ≤ (4 : Int) := hI_v.1 37 0 4
      have : (-1 : Int) ≤ (w38 30 0 8).toInt ∧ (w38 30 0 8).toInt ≤ (100 : Int) := hI_w38.1 30 0 8
      have : (-1 : Int) ≤ (v 30 0 8).toInt ∧ (v 30 0 8).toInt ≤ (100 : Int) := hI_v.1 30 0 8
      have : (0 : Int) ≤ (w38 30 0 9).toInt ∧ (w38 30 0 9).toInt ≤ (100 : Int) := hI_w38.1 30 0 9
      refine ok_bind (k_X8_byteAt w38 hI_w38 (w38 30 0 9) (by have : (0 : Int) ≤ (w38 30 0 9).toInt ∧ (w38 30 0 9).toInt ≤ (100 : Int) := hI_w38.1 30 0 9; omega)) (fun r2 hr2 => ?_)
      have hr2 : (-1 : Int) ≤ Int32.toInt r2 ∧ Int32.toInt r2 ≤ (255 : Int) ∧ (Int32.toInt r2 = -1 ∨ Int32.toInt (w38 30 0 9) < Int32.toInt (w38 30 0 6)) := hr2
      have : (0 : Int) ≤ (w38 30 0 9).toInt ∧ (w38 30 0 9).toInt ≤ (100 : Int) := hI_w38.1 30 0 9
      have : (0 : Int) ≤ (w38 30 0 6).toInt ∧ (w38 30 0 6).toInt ≤ (100 : Int) := hI_w38.1 30 0 6
      have : (0 : Int) ≤ (w38 30 0 9).toInt ∧ (w38 30 0 9).toInt ≤ (100 : Int) := hI_w38.1 30 0 9
      refine ok_bind (k_X8_in w38 hI_w38 r2 48 57 ) (fun r5 hr5 => ?_)
      have hr5 : (0 : Int) ≤ Int32.toInt r5 ∧ Int32.toInt r5 ≤ (1 : Int) ∧ (Int32.toInt r5 = 0 ∨ (Int32.toInt 48 ≤ Int32.toInt r2 ∧ Int32.toInt r2 ≤ Int32.toInt 57)) := hr5
      have : (48 : Int32).toInt = 48 := (by decide)
      have : (57 : Int32).toInt = 57 := (by decide)
      refine ok_ite _ (fun c7 => ?_) (fun c7 => ?_)
      · skip
        have ic7 := i_eq c7
        have : (0 : Int32).toInt = 0 := (by decide)
        refine ok_ite _ (fun c8 => ?_) (fun c8 => ?_)
        · skip
          have ic8 := i_le c8
          have : (0 : Int) ≤ (w38 30 0 9).toInt ∧ (w38 30 0 9).toInt ≤ (100 : Int) := hI_w38.1 30 0 9
          have : (0 : Int) ≤ (w38 30 0 10).toInt ∧ (w38 30 0 10).toInt ≤ (100 : Int) := hI_w38.1 30 0 10
          have := i_bd (w38 30 0 9)
          have := i_bd (w38 30 0 10)
          (first | have := sp_subx (w38 30 0 9) (w38 30 0 10) (by omega) | obtain ⟨k1, hk1⟩ := sp_sub (w38 30 0 9) (w38 30 0 10))
          have : (3 : Int32).toInt = 3 := (by decide)
          refine ok_let (fun v9 ev9 => ?_)
          have hI_v9 : IM v9 := by
            rw [ev9]
            refine hI_w38.upo (by decide) ?_
            show (0 : Int) ≤ Int32.toInt (5 : Int32) ∧ Int32.toInt (5 : Int32) ≤ (5 : Int)
            have : (5 : Int32).toInt = 5 := (by decide)
            omega
          have := i_eq (show v9 30 0 8 = w38 30 0 8 by rw [ev9]; exact up3_j (by decide))
          have := i_eq (show v9 30 0 9 = w38 30 0 9 by rw [ev9]; exact up3_j (by decide))
          have := i_eq (show v9 30 0 10 = w38 30 0 10 by rw [ev9]; exact up3_j (by decide))
          have := i_eq (show v9 30 0 11 = 5 by rw [ev9]; exact up3_s)
          have : (5 : Int32).toInt = 5 := (by decide)
          have := i_eq (show v9 30 0 12 = w38 30 0 12 by rw [ev9]; exact up3_j (by decide))
          have := i_eq (show v9 37 0 3 = w38 37 0 3 by rw [ev9]; exact up3_t (by decide))
          have := i_eq (show v9 37 0 4 = w38 37 0 4 by rw [ev9]; exact up3_t (by decide))
          have : ((v9 36 0 3).toInt = 0 ∧ (v9 36 0 4).toInt = 0) ∨ (0 < (v9 36 0 3).toInt ∧ 0 < (v9 36 0 4).toInt) := hI_v9.2.1
          refine ok_some ?_
          show IM v9 ∧ (Int32.toInt (v9 37 0 3) = Int32.toInt (v 37 0 3)) ∧ (Int32.toInt (v9 37 0 4) = Int32.toInt (v 37 0 4)) ∧ (Int32.toInt (v9 30 0 8) = Int32.toInt (v 30 0 8))
          refine ⟨hI_v9, ?_⟩
          omega
        · skip
          have ic8 := i_nle c8
          have : (0 : Int) ≤ (w38 30 0 9).toInt ∧ (w38 30 0 9).toInt ≤ (100 : Int) := hI_w38.1 30 0 9
          have : (0 : Int) ≤ (w38 30 0 10).toInt ∧ (w38 30 0 10).toInt ≤ (100 : Int) := hI_w38.1 30 0 10
          have := i_bd (w38 30 0 9)
          have := i_bd (w38 30 0 10)
          (first | have := sp_subx (w38 30 0 9) (w38 30 0 10) (by omega) | obtain ⟨k2, hk2⟩ := sp_sub (w38 30 0 9) (w38 30 0 10))
          have : (3 : Int32).toInt = 3 := (by decide)
          refine ok_let (fun v10 ev10 => ?_)
          have hI_v10 : IM v10 := by
            rw [ev10]
            refine hI_w38.upo (by decide) ?_
            show (0 : Int) ≤ Int32.toInt (2 : Int32) ∧ Int32.toInt (2 : Int32) ≤ (5 : Int)
            have : (2 : Int32).toInt = 2 := (by decide)
            omega
          have := i_eq (show v10 30 0 8 = w38 30 0 8 by rw [ev10]; exact up3_j (by decide))
          have := i_eq (show v10 30 0 9 = w38 30 0 9 by rw [ev10]; exact up3_j (by decide))
          have := i_eq (show v10 30 0 10 = w38 30 0 10 by rw [ev10]; exact up3_j (by decide))
          have := i_eq (show v10 30 0 11 = 2 by rw [ev10]; exact up3_s)
          have : (2 : Int32).toInt = 2 := (by decide)
          have := i_eq (show v10 30 0 12 = w38 30 0 12 by rw [ev10]; exact up3_j (by decide))
          have := i_eq (show v10 37 0 3 = w38 37 0 3 by rw [ev10]; exact up3_t (by decide))
          have := i_eq (show v10 37 0 4 = w38 37 0 4 by rw [ev10]; exact up3_t (by decide))
          have : ((v10 36 0 3).toInt = 0 ∧ (v10 36 0 4).toInt = 0) ∨ (0 < (v10 36 0 3).toInt ∧ 0 < (v10 36 0 4).toInt) := hI_v10.2.1
          refine ok_some ?_
          show IM v10 ∧ (Int32.toInt (v10 37 0 3) = Int32.toInt (v 37 0 3)) ∧ (Int32.toInt (v10 37 0 4) = Int32.toInt (v 37 0 4)) ∧ (Int32.toInt (v10 30 0 8) = Int32.toInt (v 30 0 8))
          refine ⟨hI_v10, ?_⟩
          omega
      · skip
        have ic7 := i_ne c7
        have : (0 : Int32).toInt = 0 := (by decide)
        refine ok_ite _ (fun c11 => ?_) (fun c11 => ?_)
        · skip
          have ic11 := i_le c11
          have : (0 : Int) ≤ (w38 30 0 9).toInt ∧ (w38 30 0 9).toInt ≤ (100 : Int) := hI_w38.1 30 0 9
          have : (0 : Int) ≤ (w38 30 0 10).toInt ∧ (w38 30 0 10).toInt ≤ (100 : Int) := hI_w38.1 30 0 10
          have := i_bd (w38 30 0 9)
          have := i_bd (w38 30 0 10)
          (first | have := sp_subx (w38 30 0 9) (w38 30 0 10) (by omega) | obtain ⟨k3, hk3⟩ := sp_sub (w38 30 0 9) (w38 30 0 10))
          have : (2 : Int32).toInt = 2 := (by decide)
          refine ok_let (fun v12 ev12 => ?_)
          have hI_v12 : IM v12 := by rw [ev12]; exact hI_w38.upo (by decide) (by have h9 := i_bd (w38 30 0 12); exact ⟨h9.1, Int.le_of_lt_add_one h9.2⟩)
          have := i_eq (show v12 30 0 8 = w38 30 0 8 by rw [ev12]; exact up3_j (by decide))
          have := i_eq (show v12 30 0 9 = w38 30 0 9 by rw [ev12]; exact up3_j (by decide))
          have := i_eq (show v12 30 0 10 = w38 30 0 10 by rw [ev12]; exact up3_j (by decide))
          have := i_eq (show v12 30 0 11 = w38 30 0 11 by rw [ev12]; exact up3_j (by decide))
          have := i_eq (show v12 30 0 12 = (w38 30 0 12) by rw [ev12]; exact up3_s)
          have := i_eq (show v12 37 0 3 = w38 37 0 3 by rw [ev12]; exact up3_t (by decide))
          have := i_eq (show v12 37 0 4 = w38 37 0 4 by rw [ev12]; exact up3_t (by decide))
          have : ((v12 36 0 3).toInt = 0 ∧ (v12 36 0 4).toInt = 0) ∨ (0 < (v12 36 0 3).toInt ∧ 0 < (v12 36 0 4).toInt) := hI_v12.2.1
          refine ok_let (fun v13 ev13 => ?_)
          have hI_v13 : IM v13 := by
            rw [ev13]
            refine hI_v12.upo (by decide) ?_
            show (0 : Int) ≤ Int32.toInt ((v12 30 0 9) + 1) ∧ Int32.toInt ((v12 30 0 9) + 1) ≤ (100 : Int)
            have : (0 : Int) ≤ (v12 30 0 9).toInt ∧ (v12 30 0 9).toInt ≤ (100 : Int) := hI_v12.1 30 0 9
            have : (1 : Int32).toInt = 1 := (by decide)
            have := i_bd (v12 30 0 9)
            (first | have := sp_addx (v12 30 0 9) (1 : Int32) (by omega) | obtain ⟨k4, hk4⟩ := sp_add (v12 30 0 9) (1 : Int32))
            omega
          have := i_eq (show v13 30 0 8 = v12 30 0 8 by rw [ev13]; exact up3_j (by decide))
          have := i_eq (show v13 30 0 9 = ((v12 30 0 9) + 1) by rw [ev13]; exact up3_s)
          have : (0 : Int) ≤ (v12 30 0 9).toInt ∧ (v12 30 0 9).toInt ≤ (100 : Int) := hI_v12.1 30 0 9
          have : (1 : Int32).toInt = 1 := (by decide)
          have := i_bd (v12 30 0 9)
          (first | have := sp_addx (v12 30 0 9) (1 : Int32) (by omega) | obtain ⟨k5, hk5⟩ := sp_add (v12 30 0 9) (1 : Int32))
          have := i_eq (show v13 30 0 10 = v12 30 0 10 by rw [ev13]; exact up3_j (by decide))
          have := i_eq (show v13 30 0 11 = v12 30 0 11 by rw [ev13]; exact up3_j (by decide))
          have := i_eq (show v13 30 0 12 = v12 30 0 12 by rw [ev13]; exact up3_j (by decide))
          have := i_eq (show v13 37 0 3 = v12 37 0 3 by rw [ev13]; exact up3_t (by decide))
          have := i_eq (show v13 37 0 4 = v12 37 0 4 by rw [ev13]; exact up3_t (by decide))
          have : ((v13 36 0 3).toInt = 0 ∧ (v13 36 0 4).toInt = 0) ∨ (0 < (v13 36 0 3).toInt ∧ 0 < (v13 36 0 4).toInt) := hI_v13.2.1
          exact ih38 v13 x1_38 hI_v13 (by omega) (by omega) (by omega) (by omega)
        · skip
          have ic11 := i_nle c11
          have : (0 : Int) ≤ (w38 30 0 9).toInt ∧ (w38 30 0 9).toInt ≤ (100 : Int) := hI_w38.1 30 0 9
          have : (0 : Int) ≤ (w38 30 0 10).toInt ∧ (w38 30 0 10).toInt ≤ (100 : Int) := hI_w38.1 30 0 10
          have := i_bd (w38 30 0 9)
          have := i_bd (w38 30 0 10)
          (first | have := sp_subx (w38 30 0 9) (w38 30 0 10) (by omega) | obtain ⟨k6, hk6⟩ := sp_sub (w38 30 0 9) (w38 30 0 10))
          have : (2 : Int32).toInt = 2 := (by decide)
          refine ok_bind (k_X8_byteAt w38 hI_w38 (w38 30 0 9) (by have : (0 : Int) ≤ (w38 30 0 9).toInt ∧ (w38 30 0 9).toInt ≤ (100 : Int) := hI_w38.1 30 0 9; omega)) (fun r15 hr15 => ?_)
          have hr15 : (-1 : Int) ≤ Int32.toInt r15 ∧ Int32.toInt r15 ≤ (255 : Int) ∧ (Int32.toInt r15 = -1 ∨ Int32.toInt (w38 30 0 9) < Int32.toInt (w38 30 0 6)) := hr15
          have : (0 : Int) ≤ (w38 30 0 9).toInt ∧ (w38 30 0 9).toInt ≤ (100 : Int) := hI_w38.1 30 0 9
          have : (0 : Int) ≤ (w38 30 0 6).toInt ∧ (w38 30 0 6).toInt ≤ (100 : Int) := hI_w38.1 30 0 6
          have : (0 : Int) ≤ (w38 30 0 9).toInt ∧ (w38 30 0 9).toInt ≤ (100 : Int) := hI_w38.1 30 0 9
          refine ok_let (fun v17 ev17 => ?_)
          have hI_v17 : IM v17 := by rw [ev17]; exact hI_w38.upo (by decide) (by have h9 := i_bd ((((10 : Int32) * (w38 30 0 12)) + r15) - 48); exact ⟨h9.1, Int.le_of_lt_add_one h9.2⟩)
          have := i_eq (show v17 30 0 8 = w38 30 0 8 by rw [ev17]; exact up3_j (by decide))
          have := i_eq (show v17 30 0 9 = w38 30 0 9 by rw [ev17]; exact up3_j (by decide))
          have := i_eq (show v17 30 0 10 = w38 30 0 10 by rw [ev17]; exact up3_j (by decide))
          have := i_eq (show v17 30 0 11 = w38 30 0 11 by rw [ev17]; exact up3_j (by decide))
          have := i_eq (show v17 30 0 12 = ((((10 : Int32) * (w38 30 0 12)) + r15) - 48) by rw [ev17]; exact up3_s)
          have : (10 : Int32).toInt = 10 := (by decide)
          (first | have := sp_cmulx (10 : Int32) (w38 30 0 12) 10 (by decide) (by omega) | obtain ⟨k7, hk7⟩ := sp_cmul (10 : Int32) (w38 30 0 12) 10 (by decide))
          have := i_bd r15
          (first | have := sp_addx ((10 : Int32) * (w38 30 0 12)) r15 (by omega) | obtain ⟨k8, hk8⟩ := sp_add ((10 : Int32) * (w38 30 0 12)) r15)
          have : (48 : Int32).toInt = 48 := (by decide)
          (first | have := sp_subx (((10 : Int32) * (w38 30 0 12)) + r15) (48 : Int32) (by omega) | obtain ⟨k9, hk9⟩ := sp_sub (((10 : Int32) * (w38 30 0 12)) + r15) (48 : Int32))
          have := i_eq (show v17 37 0 3 = w38 37 0 3 by rw [ev17]; exact up3_t (by decide))
          have := i_eq (show v17 37 0 4 = w38 37 0 4 by rw [ev17]; exact up3_t (by decide))
          have : ((v17 36 0 3).toInt = 0 ∧ (v17 36 0 4).toInt = 0) ∨ (0 < (v17 36 0 3).toInt ∧ 0 < (v17 36 0 4).toInt) := hI_v17.2.1
          refine ok_let (fun v18 ev18 => ?_)
          have hI_v18 : IM v18 := by
            rw [ev18]
            refine hI_v17.upo (by decide) ?_
            show (0 : Int) ≤ Int32.toInt ((v17 30 0 9) + 1) ∧ Int32.toInt ((v17 30 0 9) + 1) ≤ (100 : Int)
            have : (0 : Int) ≤ (v17 30 0 9).toInt ∧ (v17 30 0 9).toInt ≤ (100 : Int) := hI_v17.1 30 0 9
            have : (1 : Int32).toInt = 1 := (by decide)
            have := i_bd (v17 30 0 9)
            (first | have := sp_addx (v17 30 0 9) (1 : Int32) (by omega) | obtain ⟨k10, hk10⟩ := sp_add (v17 30 0 9) (1 : Int32))
            omega
          have := i_eq (show v18 30 0 8 = v17 30 0 8 by rw [ev18]; exact up3_j (by decide))
          have := i_eq (show v18 30 0 9 = ((v17 30 0 9) + 1) by rw [ev18]; exact up3_s)
          have : (0 : Int) ≤ (v17 30 0 9).toInt ∧ (v17 30 0 9).toInt ≤ (100 : Int) := hI_v17.1 30 0 9
          have : (1 : Int32).toInt = 1 := (by decide)
          have := i_bd (v17 30 0 9)
          (first | have := sp_addx (v17 30 0 9) (1 : Int32) (by omega) | obtain ⟨k11, hk11⟩ := sp_add (v17 30 0 9) (1 : Int32))
          have := i_eq (show v18 30 0 10 = v17 30 0 10 by rw [ev18]; exact up3_j (by decide))
          have := i_eq (show v18 30 0 11 = v17 30 0 11 by rw [ev18]; exact up3_j (by decide))
          have := i_eq (show v18 30 0 12 = v17 30 0 12 by rw [ev18]; exact up3_j (by decide))
          have := i_eq (show v18 37 0 3 = v17 37 0 3 by rw [ev18]; exact up3_t (by decide))
          have := i_eq (show v18 37 0 4 = v17 37 0 4 by rw [ev18]; exact up3_t (by decide))
          have : ((v18 36 0 3).toInt = 0 ∧ (v18 36 0 4).toInt = 0) ∨ (0 < (v18 36 0 3).toInt ∧ 0 < (v18 36 0 4).toInt) := hI_v18.2.1
          exact ih38 v18 x1_38 hI_v18 (by omega) (by omega) (by omega) (by omega)
  unfold g_X8_advances
  refine ok_let (fun v19 ev19 => ?_)
  have hI_v19 : IM v19 := by
    rw [ev19]
    refine hI_v.upo (by decide) ?_
    show (0 : Int) ≤ Int32.toInt (v 30 0 9) ∧ Int32.toInt (v 30 0 9) ≤ (100 : Int)
    have : (0 : Int) ≤ (v 30 0 9).toInt ∧ (v 30 0 9).toInt ≤ (100 : Int) := hI_v.1 30 0 9
    omega
  have := i_eq (show v19 30 0 8 = v 30 0 8 by rw [ev19]; exact up3_j (by decide))
  have := i_eq (show v19 30 0 9 = v 30 0 9 by rw [ev19]; exact up3_j (by decide))
  have := i_eq (show v19 30 0 10 = (v 30 0 9) by rw [ev19]; exact up3_s)
  have : (0 : Int) ≤ (v 30 0 9).toInt ∧ (v 30 0 9).toInt ≤ (100 : Int) := hI_v.1 30 0 9
  have := i_eq (show v19 30 0 11 = v 30 0 11 by rw [ev19]; exact up3_j (by decide))
  have := i_eq (show v19 30 0 12 = v 30 0 12 by rw [ev19]; exact up3_j (by decide))
  have := i_eq (show v19 37 0 3 = v 37 0 3 by rw [ev19]; exact up3_t (by decide))
  have := i_eq (show v19 37 0 4 = v 37 0 4 by rw [ev19]; exact up3_t (by decide))
  have : ((v19 36 0 3).toInt = 0 ∧ (v19 36 0 4).toInt = 0) ∨ (0 < (v19 36 0 3).toInt ∧ 0 < (v19 36 0 4).toInt) := hI_v19.2.1
  refine ok_bind (k_X8_byteAt v19 hI_v19 (v19 30 0 9) (by have : (0 : Int) ≤ (v19 30 0 9).toInt ∧ (v19 30 0 9).toInt ≤ (100 : Int) := hI_v19.1 30 0 9; omega)) (fun r21 hr21 => ?_)
  have hr21 : (-1 : Int) ≤ Int32.toInt r21 ∧ Int32.toInt r21 ≤ (255 : Int) ∧ (Int32.toInt r21 = -1 ∨ Int32.toInt (v19 30 0 9) < Int32.toInt (v19 30 0 6)) := hr21
  have : (0 : Int) ≤ (v19 30 0 9).toInt ∧ (v19 30 0 9).toInt ≤ (100 : Int) := hI_v19.1 30 0 9
  have : (0 : Int) ≤ (v19 30 0 6).toInt ∧ (v19 30 0 6).toInt ≤ (100 : Int) := hI_v19.1 30 0 6
  have : (0 : Int) ≤ (v19 30 0 9).toInt ∧ (v19 30 0 9).toInt ≤ (100 : Int) := hI_v19.1 30 0 9
  refine ok_let (fun v23 ev23 => ?_)
  have hI_v23 : IM v23 := by rw [ev23]; exact hI_v19.upo (by decide) (by have h9 := i_bd r21; exact ⟨h9.1, Int.le_of_lt_add_one h9.2⟩)
  have := i_eq (show v23 30 0 8 = v19 30 0 8 by rw [ev23]; exact up3_j (by decide))
  have := i_eq (show v23 30 0 9 = v19 30 0 9 by rw [ev23]; exact up3_j (by decide))
  have := i_eq (show v23 30 0 10 = v19 30 0 10 by rw [ev23]; exact up3_j (by decide))
  have := i_eq (show v23 30 0 11 = v19 30 0 11 by rw [ev23]; exact up3_j (by decide))
  have := i_eq (show v23 30 0 12 = r21 by rw [ev23]; exact up3_s)
  have := i_eq (show v23 37 0 3 = v19 37 0 3 by rw [ev23]; exact up3_t (by decide))
  have := i_eq (show v23 37 0 4 = v19 37 0 4 by rw [ev23]; exact up3_t (by decide))
  have : ((v23 36 0 3).toInt = 0 ∧ (v23 36 0 4).toInt = 0) ∨ (0 < (v23 36 0 3).toInt ∧ 0 < (v23 36 0 4).toInt) := hI_v23.2.1
  refine ok_bind (k_X8_in v23 hI_v23 r21 48 57 ) (fun r25 hr25 => ?_)
  have hr25 : (0 : Int) ≤ Int32.toInt r25 ∧ Int32.toInt r25 ≤ (1 : Int) ∧ (Int32.toInt r25 = 0 ∨ (Int32.toInt 48 ≤ Int32.toInt r21 ∧ Int32.toInt r21 ≤ Int32.toInt 57)) := hr25
  have : (48 : Int32).toInt = 48 := (by decide)
  have : (57 : Int32).toInt = 57 := (by decide)
  refine ok_ite _ (fun c27 => ?_) (fun c27 => ?_)
  · skip
    have ic27 := i_eq c27
    have : (0 : Int32).toInt = 0 := (by decide)
    refine ok_ite _ (fun c28 => ?_) (fun c28 => ?_)
    · skip
      have ic28 := i_le c28
      have : (0 : Int32).toInt = 0 := (by decide)
      refine ok_bind (k_X8_in v23 hI_v23 r21 97 122 ) (fun r30 hr30 => ?_)
      have hr30 : (0 : Int) ≤ Int32.toInt r30 ∧ Int32.toInt r30 ≤ (1 : Int) ∧ (Int32.toInt r30 = 0 ∨ (Int32.toInt 97 ≤ Int32.toInt r21 ∧ Int32.toInt r21 ≤ Int32.toInt 122)) := hr30
      have : (97 : Int32).toInt = 97 := (by decide)
      have : (122 : Int32).toInt = 122 := (by decide)
      refine ok_ite _ (fun c32 => ?_) (fun c32 => ?_)
      · skip
        have ic32 := i_eq c32
        have : (0 : Int32).toInt = 0 := (by decide)
        refine ok_ite _ (fun c33 => ?_) (fun c33 => ?_)
        · skip
          have ic33 := i_eq c33
          have : (44 : Int32).toInt = 44 := (by decide)
          refine ok_let (fun v34 ev34 => ?_)
          have hI_v34 : IM v34 := by
            rw [ev34]
            refine hI_v23.upo (by decide) ?_
            show (0 : Int) ≤ Int32.toInt (3 : Int32) ∧ Int32.toInt (3 : Int32) ≤ (5 : Int)
            have : (3 : Int32).toInt = 3 := (by decide)
            omega
          have := i_eq (show v34 30 0 8 = v23 30 0 8 by rw [ev34]; exact up3_j (by decide))
          have := i_eq (show v34 30 0 9 = v23 30 0 9 by rw [ev34]; exact up3_j (by decide))
          have := i_eq (show v34 30 0 10 = v23 30 0 10 by rw [ev34]; exact up3_j (by decide))
          have := i_eq (show v34 30 0 11 = 3 by rw [ev34]; exact up3_s)
          have : (3 : Int32).toInt = 3 := (by decide)
          have := i_eq (show v34 30 0 12 = v23 30 0 12 by rw [ev34]; exact up3_j (by decide))
          have := i_eq (show v34 37 0 3 = v23 37 0 3 by rw [ev34]; exact up3_t (by decide))
          have := i_eq (show v34 37 0 4 = v23 37 0 4 by rw [ev34]; exact up3_t (by decide))
          have : ((v34 36 0 3).toInt = 0 ∧ (v34 36 0 4).toInt = 0) ∨ (0 < (v34 36 0 3).toInt ∧ 0 < (v34 36 0 4).toInt) := hI_v34.2.1
          refine ok_ite _ (fun c35 => ?_) (fun c35 => ?_)
          · skip
            have ic35 := i_eq c35
            have : (0 : Int) ≤ (v34 30 0 11).toInt ∧ (v34 30 0 11).toInt ≤ (5 : Int) := hI_v34.1 30 0 11
            have : (0 : Int32).toInt = 0 := (by decide)
            refine ok_let (fun v36 ev36 => ?_)
            have hI_v36 : IM v36 := by
              rw [ev36]
              refine hI_v34.upo (by decide) ?_
              show (0 : Int) ≤ Int32.toInt ((v34 30 0 9) + 0) ∧ Int32.toInt ((v34 30 0 9) + 0) ≤ (100 : Int)
              have : (0 : Int) ≤ (v34 30 0 9).toInt ∧ (v34 30 0 9).toInt ≤ (100 : Int) := hI_v34.1 30 0 9
              have : (0 : Int32).toInt = 0 := (by decide)
              have := i_bd (v34 30 0 9)
              (first | have := sp_addx (v34 30 0 9) (0 : Int32) (by omega) | obtain ⟨k12, hk12⟩ := sp_add (v34 30 0 9) (0 : Int32))
              omega
            have := i_eq (show v36 30 0 8 = v34 30 0 8 by rw [ev36]; exact up3_j (by decide))
            have := i_eq (show v36 30 0 9 = ((v34 30 0 9) + 0) by rw [ev36]; exact up3_s)
            have : (0 : Int) ≤ (v34 30 0 9).toInt ∧ (v34 30 0 9).toInt ≤ (100 : Int) := hI_v34.1 30 0 9
            have : (0 : Int32).toInt = 0 := (by decide)
            have := i_bd (v34 30 0 9)
            (first | have := sp_addx (v34 30 0 9) (0 : Int32) (by omega) | obtain ⟨k13, hk13⟩ := sp_add (v34 30 0 9) (0 : Int32))
            have := i_eq (show v36 30 0 10 = v34 30 0 10 by rw [ev36]; exact up3_j (by decide))
            have := i_eq (show v36 30 0 11 = v34 30 0 11 by rw [ev36]; exact up3_j (by decide))
            have := i_eq (show v36 30 0 12 = v34 30 0 12 by rw [ev36]; exact up3_j (by decide))
            have := i_eq (show v36 37 0 3 = v34 37 0 3 by rw [ev36]; exact up3_t (by decide))
            have := i_eq (show v36 37 0 4 = v34 37 0 4 by rw [ev36]; exact up3_t (by decide))
            have : ((v36 36 0 3).toInt = 0 ∧ (v36 36 0 4).toInt = 0) ∨ (0 < (v36 36 0 3).toInt ∧ 0 < (v36 36 0 4).toInt) := hI_v36.2.1
            refine ok_some ?_
            show IM v36 ∧ (Int32.toInt (v36 37 0 3) = Int32.toInt (v 37 0 3)) ∧ (Int32.toInt (v36 37 0 4) = Int32.toInt (v 37 0 4)) ∧ (Int32.toInt (v36 30 0 8) = Int32.toInt (v 30 0 8))
            refine ⟨hI_v36, ?_⟩
            omega
          · skip
            have ic35 := i_ne c35
            have : (0 : Int) ≤ (v34 30 0 11).toInt ∧ (v34 30 0 11).toInt ≤ (5 : Int) := hI_v34.1 30 0 11
            have : (0 : Int32).toInt = 0 := (by decide)
            refine ok_let (fun v37 ev37 => ?_)
            have hI_v37 : IM v37 := by
              rw [ev37]
              refine hI_v34.upo (by decide) ?_
              show (0 : Int) ≤ Int32.toInt ((v34 30 0 9) + 1) ∧ Int32.toInt ((v34 30 0 9) + 1) ≤ (100 : Int)
              have : (0 : Int) ≤ (v34 30 0 9).toInt ∧ (v34 30 0 9).toInt ≤ (100 : Int) := hI_v34.1 30 0 9
              have : (1 : Int32).toInt = 1 := (by decide)
              have := i_bd (v34 30 0 9)
              (first | have := sp_addx (v34 30 0 9) (1 : Int32) (by omega) | obtain ⟨k14, hk14⟩ := sp_add (v34 30 0 9) (1 : Int32))
              omega
            have := i_eq (show v37 30 0 8 = v34 30 0 8 by rw [ev37]; exact up3_j (by decide))
            have := i_eq (show v37 30 0 9 = ((v34 30 0 9) + 1) by rw [ev37]; exact up3_s)
            have : (0 : Int) ≤ (v34 30 0 9).toInt ∧ (v34 30 0 9).toInt ≤ (100 : Int) := hI_v34.1 30 0 9
            have : (1 : Int32).toInt = 1 := (by decide)
            have := i_bd (v34 30 0 9)
            (first | have := sp_addx (v34 30 0 9) (1 : Int32) (by omega) | obtain ⟨k15, hk15⟩ := sp_add (v34 30 0 9) (1 : Int32))
            have := i_eq (show v37 30 0 10 = v34 30 0 10 by rw [ev37]; exact up3_j (by decide))
            have := i_eq (show v37 30 0 11 = v34 30 0 11 by rw [ev37]; exact up3_j (by decide))
            have := i_eq (show v37 30 0 12 = v34 30 0 12 by rw [ev37]; exact up3_j (by decide))
            have := i_eq (show v37 37 0 3 = v34 37 0 3 by rw [ev37]; exact up3_t (by decide))
            have := i_eq (show v37 37 0 4 = v34 37 0 4 by rw [ev37]; exact up3_t (by decide))
            have : ((v37 36 0 3).toInt = 0 ∧ (v37 36 0 4).toInt = 0) ∨ (0 < (v37 36 0 3).toInt ∧ 0 < (v37 36 0 4).toInt) := hI_v37.2.1
            refine ok_some ?_
            show IM v37 ∧ (Int32.toInt (v37 37 0 3) = Int32.toInt (v 37 0 3)) ∧ (Int32.toInt (v37 37 0 4) = Int32.toInt (v 37 0 4)) ∧ (Int32.toInt (v37 30 0 8) = Int32.toInt (v 30 0 8))
            refine ⟨hI_v37, ?_⟩
            omega
        · skip
          have ic33 := i_ne c33
          have : (44 : Int32).toInt = 44 := (by decide)
          refine ok_ite _ (fun c38 => ?_) (fun c38 => ?_)
          · skip
            have ic38 := i_eq c38
            have : (59 : Int32).toInt = 59 := (by decide)
            refine ok_let (fun v39 ev39 => ?_)
            have hI_v39 : IM v39 := by
              rw [ev39]
              refine hI_v23.upo (by decide) ?_
              show (0 : Int) ≤ Int32.toInt (4 : Int32) ∧ Int32.toInt (4 : Int32) ≤ (5 : Int)
              have : (4 : Int32).toInt = 4 := (by decide)
              omega
            have := i_eq (show v39 30 0 8 = v23 30 0 8 by rw [ev39]; exact up3_j (by decide))
            have := i_eq (show v39 30 0 9 = v23 30 0 9 by rw [ev39]; exact up3_j (by decide))
            have := i_eq (show v39 30 0 10 = v23 30 0 10 by rw [ev39]; exact up3_j (by decide))
            have := i_eq (show v39 30 0 11 = 4 by rw [ev39]; exact up3_s)
            have : (4 : Int32).toInt = 4 := (by decide)
            have := i_eq (show v39 30 0 12 = v23 30 0 12 by rw [ev39]; exact up3_j (by decide))
            have := i_eq (show v39 37 0 3 = v23 37 0 3 by rw [ev39]; exact up3_t (by decide))
            have := i_eq (show v39 37 0 4 = v23 37 0 4 by rw [ev39]; exact up3_t (by decide))
            have : ((v39 36 0 3).toInt = 0 ∧ (v39 36 0 4).toInt = 0) ∨ (0 < (v39 36 0 3).toInt ∧ 0 < (v39 36 0 4).toInt) := hI_v39.2.1
            refine ok_ite _ (fun c40 => ?_) (fun c40 => ?_)
            · skip
              have ic40 := i_eq c40
              have : (0 : Int) ≤ (v39 30 0 11).toInt ∧ (v39 30 0 11).toInt ≤ (5 : Int) := hI_v39.1 30 0 11
              have : (0 : Int32).toInt = 0 := (by decide)
              refine ok_let (fun v41 ev41 => ?_)
              have hI_v41 : IM v41 := by
                rw [ev41]
                refine hI_v39.upo (by decide) ?_
                show (0 : Int) ≤ Int32.toInt ((v39 30 0 9) + 0) ∧ Int32.toInt ((v39 30 0 9) + 0) ≤ (100 : Int)
                have : (0 : Int) ≤ (v39 30 0 9).toInt ∧ (v39 30 0 9).toInt ≤ (100 : Int) := hI_v39.1 30 0 9
                have : (0 : Int32).toInt = 0 := (by decide)
                have := i_bd (v39 30 0 9)
                (first | have := sp_addx (v39 30 0 9) (0 : Int32) (by omega) | obtain ⟨k16, hk16⟩ := sp_add (v39 30 0 9) (0 : Int32))
                omega
              have := i_eq (show v41 30 0 8 = v39 30 0 8 by rw [ev41]; exact up3_j (by decide))
              have := i_eq (show v41 30 0 9 = ((v39 30 0 9) + 0) by rw [ev41]; exact up3_s)
              have : (0 : Int) ≤ (v39 30 0 9).toInt ∧ (v39 30 0 9).toInt ≤ (100 : Int) := hI_v39.1 30 0 9
              have : (0 : Int32).toInt = 0 := (by decide)
              have := i_bd (v39 30 0 9)
              (first | have := sp_addx (v39 30 0 9) (0 : Int32) (by omega) | obtain ⟨k17, hk17⟩ := sp_add (v39 30 0 9) (0 : Int32))
              have := i_eq (show v41 30 0 10 = v39 30 0 10 by rw [ev41]; exact up3_j (by decide))
              have := i_eq (show v41 30 0 11 = v39 30 0 11 by rw [ev41]; exact up3_j (by decide))
              have := i_eq (show v41 30 0 12 = v39 30 0 12 by rw [ev41]; exact up3_j (by decide))
              have := i_eq (show v41 37 0 3 = v39 37 0 3 by rw [ev41]; exact up3_t (by decide))
              have := i_eq (show v41 37 0 4 = v39 37 0 4 by rw [ev41]; exact up3_t (by decide))
              have : ((v41 36 0 3).toInt = 0 ∧ (v41 36 0 4).toInt = 0) ∨ (0 < (v41 36 0 3).toInt ∧ 0 < (v41 36 0 4).toInt) := hI_v41.2.1
              refine ok_some ?_
              show IM v41 ∧ (Int32.toInt (v41 37 0 3) = Int32.toInt (v 37 0 3)) ∧ (Int32.toInt (v41 37 0 4) = Int32.toInt (v 37 0 4)) ∧ (Int32.toInt (v41 30 0 8) = Int32.toInt (v 30 0 8))
              refine ⟨hI_v41, ?_⟩
              omega
            · skip
              have ic40 := i_ne c40
              have : (0 : Int) ≤ (v39 30 0 11).toInt ∧ (v39 30 0 11).toInt ≤ (5 : Int) := hI_v39.1 30 0 11
              have : (0 : Int32).toInt = 0 := (by decide)
              refine ok_let (fun v42 ev42 => ?_)
              have hI_v42 : IM v42 := by
                rw [ev42]
                refine hI_v39.upo (by decide) ?_
                show (0 : Int) ≤ Int32.toInt ((v39 30 0 9) + 1) ∧ Int32.toInt ((v39 30 0 9) + 1) ≤ (100 : Int)
                have : (0 : Int) ≤ (v39 30 0 9).toInt ∧ (v39 30 0 9).toInt ≤ (100 : Int) := hI_v39.1 30 0 9
                have : (1 : Int32).toInt = 1 := (by decide)
                have := i_bd (v39 30 0 9)
                (first | have := sp_addx (v39 30 0 9) (1 : Int32) (by omega) | obtain ⟨k18, hk18⟩ := sp_add (v39 30 0 9) (1 : Int32))
                omega
              have := i_eq (show v42 30 0 8 = v39 30 0 8 by rw [ev42]; exact up3_j (by decide))
              have := i_eq (show v42 30 0 9 = ((v39 30 0 9) + 1) by rw [ev42]; exact up3_s)
              have : (0 : Int) ≤ (v39 30 0 9).toInt ∧ (v39 30 0 9).toInt ≤ (100 : Int) := hI_v39.1 30 0 9
              have : (1 : Int32).toInt = 1 := (by decide)
              have := i_bd (v39 30 0 9)
              (first | have := sp_addx (v39 30 0 9) (1 : Int32) (by omega) | obtain ⟨k19, hk19⟩ := sp_add (v39 30 0 9) (1 : Int32))
              have := i_eq (show v42 30 0 10 = v39 30 0 10 by rw [ev42]; exact up3_j (by decide))
              have := i_eq (show v42 30 0 11 = v39 30 0 11 by rw [ev42]; exact up3_j (by decide))
              have := i_eq (show v42 30 0 12 = v39 30 0 12 by rw [ev42]; exact up3_j (by decide))
              have := i_eq (show v42 37 0 3 = v39 37 0 3 by rw [ev42]; exact up3_t (by decide))
              have := i_eq (show v42 37 0 4 = v39 37 0 4 by rw [ev42]; exact up3_t (by decide))
              have : ((v42 36 0 3).toInt = 0 ∧ (v42 36 0 4).toInt = 0) ∨ (0 < (v42 36 0 3).toInt ∧ 0 < (v42 36 0 4).toInt) := hI_v42.2.1
              refine ok_some ?_
              show IM v42 ∧ (Int32.toInt (v42 37 0 3) = Int32.toInt (v 37 0 3)) ∧ (Int32.toInt (v42 37 0 4) = Int32.toInt (v 37 0 4)) ∧ (Int32.toInt (v42 30 0 8) = Int32.toInt (v 30 0 8))
              refine ⟨hI_v42, ?_⟩
              omega
          · skip
            have ic38 := i_ne c38
            have : (59 : Int32).toInt = 59 := (by decide)
            refine ok_let (fun v43 ev43 => ?_)
            have hI_v43 : IM v43 := by
              rw [ev43]
              refine hI_v23.upo (by decide) ?_
              show (0 : Int) ≤ Int32.toInt (5 : Int32) ∧ Int32.toInt (5 : Int32) ≤ (5 : Int)
              have : (5 : Int32).toInt = 5 := (by decide)
              omega
            have := i_eq (show v43 30 0 8 = v23 30 0 8 by rw [ev43]; exact up3_j (by decide))
            have := i_eq (show v43 30 0 9 = v23 30 0 9 by rw [ev43]; exact up3_j (by decide))
            have := i_eq (show v43 30 0 10 = v23 30 0 10 by rw [ev43]; exact up3_j (by decide))
            have := i_eq (show v43 30 0 11 = 5 by rw [ev43]; exact up3_s)
            have : (5 : Int32).toInt = 5 := (by decide)
            have := i_eq (show v43 30 0 12 = v23 30 0 12 by rw [ev43]; exact up3_j (by decide))
            have := i_eq (show v43 37 0 3 = v23 37 0 3 by rw [ev43]; exact up3_t (by decide))
            have := i_eq (show v43 37 0 4 = v23 37 0 4 by rw [ev43]; exact up3_t (by decide))
            have : ((v43 36 0 3).toInt = 0 ∧ (v43 36 0 4).toInt = 0) ∨ (0 < (v43 36 0 3).toInt ∧ 0 < (v43 36 0 4).toInt) := hI_v43.2.1
            refine ok_ite _ (fun c44 => ?_) (fun c44 => ?_)
            · skip
              have ic44 := i_eq c44
              have : (0 : Int) ≤ (v43 30 0 11).toInt ∧ (v43 30 0 11).toInt ≤ (5 : Int) := hI_v43.1 30 0 11
              have : (0 : Int32).toInt = 0 := (by decide)
              refine ok_let (fun v45 ev45 => ?_)
              have hI_v45 : IM v45 := by
                rw [ev45]
                refine hI_v43.upo (by decide) ?_
                show (0 : Int) ≤ Int32.toInt ((v43 30 0 9) + 0) ∧ Int32.toInt ((v43 30 0 9) + 0) ≤ (100 : Int)
                have : (0 : Int) ≤ (v43 30 0 9).toInt ∧ (v43 30 0 9).toInt ≤ (100 : Int) := hI_v43.1 30 0 9
                have : (0 : Int32).toInt = 0 := (by decide)
                have := i_bd (v43 30 0 9)
                (first | have := sp_addx (v43 30 0 9) (0 : Int32) (by omega) | obtain ⟨k20, hk20⟩ := sp_add (v43 30 0 9) (0 : Int32))
                omega
              have := i_eq (show v45 30 0 8 = v43 30 0 8 by rw [ev45]; exact up3_j (by decide))
              have := i_eq (show v45 30 0 9 = ((v43 30 0 9) + 0) by rw [ev45]; exact up3_s)
              have : (0 : Int) ≤ (v43 30 0 9).toInt ∧ (v43 30 0 9).toInt ≤ (100 : Int) := hI_v43.1 30 0 9
              have : (0 : Int32).toInt = 0 := (by decide)
              have := i_bd (v43 30 0 9)
              (first | have := sp_addx (v43 30 0 9) (0 : Int32) (by omega) | obtain ⟨k21, hk21⟩ := sp_add (v43 30 0 9) (0 : Int32))
              have := i_eq (show v45 30 0 10 = v43 30 0 10 by rw [ev45]; exact up3_j (by decide))
              have := i_eq (show v45 30 0 11 = v43 30 0 11 by rw [ev45]; exact up3_j (by decide))
              have := i_eq (show v45 30 0 12 = v43 30 0 12 by rw [ev45]; exact up3_j (by decide))
              have := i_eq (show v45 37 0 3 = v43 37 0 3 by rw [ev45]; exact up3_t (by decide))
              have := i_eq (show v45 37 0 4 = v43 37 0 4 by rw [ev45]; exact up3_t (by decide))
              have : ((v45 36 0 3).toInt = 0 ∧ (v45 36 0 4).toInt = 0) ∨ (0 < (v45 36 0 3).toInt ∧ 0 < (v45 36 0 4).toInt) := hI_v45.2.1
              refine ok_some ?_
              show IM v45 ∧ (Int32.toInt (v45 37 0 3) = Int32.toInt (v 37 0 3)) ∧ (Int32.toInt (v45 37 0 4) = Int32.toInt (v 37 0 4)) ∧ (Int32.toInt (v45 30 0 8) = Int32.toInt (v 30 0 8))
              refine ⟨hI_v45, ?_⟩
              omega
            · skip
              have ic44 := i_ne c44
              have : (0 : Int) ≤ (v43 30 0 11).toInt ∧ (v43 30 0 11).toInt ≤ (5 : Int) := hI_v43.1 30 0 11
              have : (0 : Int32).toInt = 0 := (by decide)
              refine ok_let (fun v46 ev46 => ?_)
              have hI_v46 : IM v46 := by
                rw [ev46]
                refine hI_v43.upo (by decide) ?_
                show (0 : Int) ≤ Int32.toInt ((v43 30 0 9) + 1) ∧ Int32.toInt ((v43 30 0 9) + 1) ≤ (100 : Int)
                have : (0 : Int) ≤ (v43 30 0 9).toInt ∧ (v43 30 0 9).toInt ≤ (100 : Int) := hI_v43.1 30 0 9
                have : (1 : Int32).toInt = 1 := (by decide)
                have := i_bd (v43 30 0 9)
                (first | have := sp_addx (v43 30 0 9) (1 : Int32) (by omega) | obtain ⟨k22, hk22⟩ := sp_add (v43 30 0 9) (1 : Int32))
                omega
              have := i_eq (show v46 30 0 8 = v43 30 0 8 by rw [ev46]; exact up3_j (by decide))
              have := i_eq (show v46 30 0 9 = ((v43 30 0 9) + 1) by rw [ev46]; exact up3_s)
              have : (0 : Int) ≤ (v43 30 0 9).toInt ∧ (v43 30 0 9).toInt ≤ (100 : Int) := hI_v43.1 30 0 9
              have : (1 : Int32).toInt = 1 := (by decide)
              have := i_bd (v43 30 0 9)
              (first | have := sp_addx (v43 30 0 9) (1 : Int32) (by omega) | obtain ⟨k23, hk23⟩ := sp_add (v43 30 0 9) (1 : Int32))
              have := i_eq (show v46 30 0 10 = v43 30 0 10 by rw [ev46]; exact up3_j (by decide))
              have := i_eq (show v46 30 0 11 = v43 30 0 11 by rw [ev46]; exact up3_j (by decide))
              have := i_eq (show v46 30 0 12 = v43 30 0 12 by rw [ev46]; exact up3_j (by decide))
              have := i_eq (show v46 37 0 3 = v43 37 0 3 by rw [ev46]; exact up3_t (by decide))
              have := i_eq (show v46 37 0 4 = v43 37 0 4 by rw [ev46]; exact up3_t (by decide))
              have : ((v46 36 0 3).toInt = 0 ∧ (v46 36 0 4).toInt = 0) ∨ (0 < (v46 36 0 3).toInt ∧ 0 < (v46 36 0 4).toInt) := hI_v46.2.1
              refine ok_some ?_
              show IM v46 ∧ (Int32.toInt (v46 37 0 3) = Int32.toInt (v 37 0 3)) ∧ (Int32.toInt (v46 37 0 4) = Int32.toInt (v 37 0 4)) ∧ (Int32.toInt (v46 30 0 8) = Int32.toInt (v 30 0 8))
              refine ⟨hI_v46, ?_⟩
              omega
      · skip
        have ic32 := i_ne c32
        have : (0 : Int32).toInt = 0 := (by decide)
        refine ok_let (fun v47 ev47 => ?_)
        have hI_v47 : IM v47 := by
          rw [ev47]
          refine hI_v23.upo (by decide) ?_
          show (0 : Int) ≤ Int32.toInt (1 : Int32) ∧ Int32.toInt (1 : Int32) ≤ (5 : Int)
          have : (1 : Int32).toInt = 1 := (by decide)
          omega
        have := i_eq (show v47 30 0 8 = v23 30 0 8 by rw [ev47]; exact up3_j (by decide))
        have := i_eq (show v47 30 0 9 = v23 30 0 9 by rw [ev47]; exact up3_j (by decide))
        have := i_eq (show v47 30 0 10 = v23 30 0 10 by rw [ev47]; exact up3_j (by decide))
        have := i_eq (show v47 30 0 11 = 1 by rw [ev47]; exact up3_s)
        have : (1 : Int32).toInt = 1 := (by decide)
        have := i_eq (show v47 30 0 12 = v23 30 0 12 by rw [ev47]; exact up3_j (by decide))
        have := i_eq (show v47 37 0 3 = v23 37 0 3 by rw [ev47]; exact up3_t (by decide))
        have := i_eq (show v47 37 0 4 = v23 37 0 4 by rw [ev47]; exact up3_t (by decide))
        have : ((v47 36 0 3).toInt = 0 ∧ (v47 36 0 4).toInt = 0) ∨ (0 < (v47 36 0 3).toInt ∧ 0 < (v47 36 0 4).toInt) := hI_v47.2.1
        refine ok_ite _ (fun c48 => ?_) (fun c48 => ?_)
        · skip
          have ic48 := i_eq c48
          have : (0 : Int) ≤ (v47 30 0 11).toInt ∧ (v47 30 0 11).toInt ≤ (5 : Int) := hI_v47.1 30 0 11
          have : (0 : Int32).toInt = 0 := (by decide)
          refine ok_let (fun v49 ev49 => ?_)
          have hI_v49 : IM v49 := by
            rw [ev49]
            refine hI_v47.upo (by decide) ?_
            show (0 : Int) ≤ Int32.toInt ((v47 30 0 9) + 0) ∧ Int32.toInt ((v47 30 0 9) + 0) ≤ (100 : Int)
            have : (0 : Int) ≤ (v47 30 0 9).toInt ∧ (v47 30 0 9).toInt ≤ (100 : Int) := hI_v47.1 30 0 9
            have : (0 : Int32).toInt = 0 := (by decide)
            have := i_bd (v47 30 0 9)
            (first | have := sp_addx (v47 30 0 9) (0 : Int32) (by omega) | obtain ⟨k24, hk24⟩ := sp_add (v47 30 0 9) (0 : Int32))
            omega
          have := i_eq (show v49 30 0 8 = v47 30 0 8 by rw [ev49]; exact up3_j (by decide))
          have := i_eq (show v49 30 0 9 = ((v47 30 0 9) + 0) by rw [ev49]; exact up3_s)
          have : (0 : Int) ≤ (v47 30 0 9).toInt ∧ (v47 30 0 9).toInt ≤ (100 : Int) := hI_v47.1 30 0 9
          have : (0 : Int32).toInt = 0 := (by decide)
          have := i_bd (v47 30 0 9)
          (first | have := sp_addx (v47 30 0 9) (0 : Int32) (by omega) | obtain ⟨k25, hk25⟩ := sp_add (v47 30 0 9) (0 : Int32))
          have := i_eq (show v49 30 0 10 = v47 30 0 10 by rw [ev49]; exact up3_j (by decide))
          have := i_eq (show v49 30 0 11 = v47 30 0 11 by rw [ev49]; exact up3_j (by decide))
          have := i_eq (show v49 30 0 12 = v47 30 0 12 by rw [ev49]; exact up3_j (by decide))
          have := i_eq (show v49 37 0 3 = v47 37 0 3 by rw [ev49]; exact up3_t (by decide))
          have := i_eq (show v49 37 0 4 = v47 37 0 4 by rw [ev49]; exact up3_t (by decide))
          have : ((v49 36 0 3).toInt = 0 ∧ (v49 36 0 4).toInt = 0) ∨ (0 < (v49 36 0 3).toInt ∧ 0 < (v49 36 0 4).toInt) := hI_v49.2.1
          refine ok_some ?_
          show IM v49 ∧ (Int32.toInt (v49 37 0 3) = Int32.toInt (v 37 0 3)) ∧ (Int32.toInt (v49 37 0 4) = Int32.toInt (v 37 0 4)) ∧ (Int32.toInt (v49 30 0 8) = Int32.toInt (v 30 0 8))
          refine ⟨hI_v49, ?_⟩
          omega
        · skip
          have ic48 := i_ne c48
          have : (0 : Int) ≤ (v47 30 0 11).toInt ∧ (v47 30 0 11).toInt ≤ (5 : Int) := hI_v47.1 30 0 11
          have : (0 : Int32).toInt = 0 := (by decide)
          refine ok_let (fun v50 ev50 => ?_)
          have hI_v50 : IM v50 := by
            rw [ev50]
            refine hI_v47.upo (by decide) ?_
            show (0 : Int) ≤ Int32.toInt ((v47 30 0 9) + 1) ∧ Int32.toInt ((v47 30 0 9) + 1) ≤ (100 : Int)
            have : (0 : Int) ≤ (v47 30 0 9).toInt ∧ (v47 30 0 9).toInt ≤ (100 : Int) := hI_v47.1 30 0 9
            have : (1 : Int32).toInt = 1 := (by decide)
            have := i_bd (v47 30 0 9)
            (first | have := sp_addx (v47 30 0 9) (1 : Int32) (by omega) | obtain ⟨k26, hk26⟩ := sp_add (v47 30 0 9) (1 : Int32))
            omega
          have := i_eq (show v50 30 0 8 = v47 30 0 8 by rw [ev50]; exact up3_j (by decide))
          have := i_eq (show v50 30 0 9 = ((v47 30 0 9) + 1) by rw [ev50]; exact up3_s)
          have : (0 : Int) ≤ (v47 30 0 9).toInt ∧ (v47 30 0 9).toInt ≤ (100 : Int) := hI_v47.1 30 0 9
          have : (1 : Int32).toInt = 1 := (by decide)
          have := i_bd (v47 30 0 9)
          (first | have := sp_addx (v47 30 0 9) (1 : Int32) (by omega) | obtain ⟨k27, hk27⟩ := sp_add (v47 30 0 9) (1 : Int32))
          have := i_eq (show v50 30 0 10 = v47 30 0 10 by rw [ev50]; exact up3_j (by decide))
          have := i_eq (show v50 30 0 11 = v47 30 0 11 by rw [ev50]; exact up3_j (by decide))
          have := i_eq (show v50 30 0 12 = v47 30 0 12 by rw [ev50]; exact up3_j (by decide))
          have := i_eq (show v50 37 0 3 = v47 37 0 3 by rw [ev50]; exact up3_t (by decide))
          have := i_eq (show v50 37 0 4 = v47 37 0 4 by rw [ev50]; exact up3_t (by decide))
          have : ((v50 36 0 3).toInt = 0 ∧ (v50 36 0 4).toInt = 0) ∨ (0 < (v50 36 0 3).toInt ∧ 0 < (v50 36 0 4).toInt) := hI_v50.2.1
          refine ok_some ?_
          show IM v50 ∧ (Int32.toInt (v50 37 0 3) = Int32.toInt (v 37 0 3)) ∧ (Int32.toInt (v50 37 0 4) = Int32.toInt (v 37 0 4)) ∧ (Int32.toInt (v50 30 0 8) = Int32.toInt (v 30 0 8))
          refine ⟨hI_v50, ?_⟩
          omega
    · skip
      have ic28 := i_nle c28
      have : (0 : Int32).toInt = 0 := (by decide)
      refine ok_let (fun v51 ev51 => ?_)
      have hI_v51 : IM v51 := by
        rw [ev51]
        refine hI_v23.upo (by decide) ?_
        show (0 : Int) ≤ Int32.toInt (0 : Int32) ∧ Int32.toInt (0 : Int32) ≤ (5 : Int)
        have : (0 : Int32).toInt = 0 := (by decide)
        omega
      have := i_eq (show v51 30 0 8 = v23 30 0 8 by rw [ev51]; exact up3_j (by decide))
      have := i_eq (show v51 30 0 9 = v23 30 0 9 by rw [ev51]; exact up3_j (by decide))
      have := i_eq (show v51 30 0 10 = v23 30 0 10 by rw [ev51]; exact up3_j (by decide))
      have := i_eq (show v51 30 0 11 = 0 by rw [ev51]; exact up3_s)
      have : (0 : Int32).toInt = 0 := (by decide)
      have := i_eq (show v51 30 0 12 = v23 30 0 12 by rw [ev51]; exact up3_j (by decide))
      have := i_eq (show v51 37 0 3 = v23 37 0 3 by rw [ev51]; exact up3_t (by decide))
      have := i_eq (show v51 37 0 4 = v23 37 0 4 by rw [ev51]; exact up3_t (by decide))
      have : ((v51 36 0 3).toInt = 0 ∧ (v51 36 0 4).toInt = 0) ∨ (0 < (v51 36 0 3).toInt ∧ 0 < (v51 36 0 4).toInt) := hI_v51.2.1
      refine ok_ite _ (fun c52 => ?_) (fun c52 => ?_)
      · skip
        have ic52 := i_eq c52
        have : (0 : Int) ≤ (v51 30 0 11).toInt ∧ (v51 30 0 11).toInt ≤ (5 : Int) := hI_v51.1 30 0 11
        have : (0 : Int32).toInt = 0 := (by decide)
        refine ok_let (fun v53 ev53 => ?_)
        have hI_v53 : IM v53 := by
          rw [ev53]
          refine hI_v51.upo (by decide) ?_
          show (0 : Int) ≤ Int32.toInt ((v51 30 0 9) + 0) ∧ Int32.toInt ((v51 30 0 9) + 0) ≤ (100 : Int)
          have : (0 : Int) ≤ (v51 30 0 9).toInt ∧ (v51 30 0 9).toInt ≤ (100 : Int) := hI_v51.1 30 0 9
          have : (0 : Int32).toInt = 0 := (by decide)
          have := i_bd (v51 30 0 9)
          (first | have := sp_addx (v51 30 0 9) (0 : Int32) (by omega) | obtain ⟨k28, hk28⟩ := sp_add (v51 30 0 9) (0 : Int32))
          omega
        have := i_eq (show v53 30 0 8 = v51 30 0 8 by rw [ev53]; exact up3_j (by decide))
        have := i_eq (show v53 30 0 9 = ((v51 30 0 9) + 0) by rw [ev53]; exact up3_s)
        have : (0 : Int) ≤ (v51 30 0 9).toInt ∧ (v51 30 0 9).toInt ≤ (100 : Int) := hI_v51.1 30 0 9
        have : (0 : Int32).toInt = 0 := (by decide)
        have := i_bd (v51 30 0 9)
        (first | have := sp_addx (v51 30 0 9) (0 : Int32) (by omega) | obtain ⟨k29, hk29⟩ := sp_add (v51 30 0 9) (0 : Int32))
        have := i_eq (show v53 30 0 10 = v51 30 0 10 by rw [ev53]; exact up3_j (by decide))
        have := i_eq (show v53 30 0 11 = v51 30 0 11 by rw [ev53]; exact up3_j (by decide))
        have := i_eq (show v53 30 0 12 = v51 30 0 12 by rw [ev53]; exact up3_j (by decide))
        have := i_eq (show v53 37 0 3 = v51 37 0 3 by rw [ev53]; exact up3_t (by decide))
        have := i_eq (show v53 37 0 4 = v51 37 0 4 by rw [ev53]; exact up3_t (by decide))
        have : ((v53 36 0 3).toInt = 0 ∧ (v53 36 0 4).toInt = 0) ∨ (0 < (v53 36 0 3).toInt ∧ 0 < (v53 36 0 4).toInt) := hI_v53.2.1
        refine ok_some ?_
        show IM v53 ∧ (Int32.toInt (v53 37 0 3) = Int32.toInt (v 37 0 3)) ∧ (Int32.toInt (v53 37 0 4) = Int32.toInt (v 37 0 4)) ∧ (Int32.toInt (v53 30 0 8) = Int32.toInt (v 30 0 8))
        refine ⟨hI_v53, ?_⟩
        omega
      · skip
        have ic52 := i_ne c52
        have : (0 : Int) ≤ (v51 30 0 11).toInt ∧ (v51 30 0 11).toInt ≤ (5 : Int) := hI_v51.1 30 0 11
        have : (0 : Int32).toInt = 0 := (by decide)
        refine ok_let (fun v54 ev54 => ?_)
        have hI_v54 : IM v54 := by
          rw [ev54]
          refine hI_v51.upo (by decide) ?_
          show (0 : Int) ≤ Int32.toInt ((v51 30 0 9) + 1) ∧ Int32.toInt ((v51 30 0 9) + 1) ≤ (100 : Int)
          have : (0 : Int) ≤ (v51 30 0 9).toInt ∧ (v51 30 0 9).toInt ≤ (100 : Int) := hI_v51.1 30 0 9
          have : (1 : Int32).toInt = 1 := (by decide)
          have := i_bd (v51 30 0 9)
          (first | have := sp_addx (v51 30 0 9) (1 : Int32) (by omega) | obtain ⟨k30, hk30⟩ := sp_add (v51 30 0 9) (1 : Int32))
          omega
        have := i_eq (show v54 30 0 8 = v51 30 0 8 by rw [ev54]; exact up3_j (by decide))
        have := i_eq (show v54 30 0 9 = ((v51 30 0 9) + 1) by rw [ev54]; exact up3_s)
        have : (0 : Int) ≤ (v51 30 0 9).toInt ∧ (v51 30 0 9).toInt ≤ (100 : Int) := hI_v51.1 30 0 9
        have : (1 : Int32).toInt = 1 := (by decide)
        have := i_bd (v51 30 0 9)
        (first | have := sp_addx (v51 30 0 9) (1 : Int32) (by omega) | obtain ⟨k31, hk31⟩ := sp_add (v51 30 0 9) (1 : Int32))
        have := i_eq (show v54 30 0 10 = v51 30 0 10 by rw [ev54]; exact up3_j (by decide))
        have := i_eq (show v54 30 0 11 = v51 30 0 11 by rw [ev54]; exact up3_j (by decide))
        have := i_eq (show v54 30 0 12 = v51 30 0 12 by rw [ev54]; exact up3_j (by decide))
        have := i_eq (show v54 37 0 3 = v51 37 0 3 by rw [ev54]; exact up3_t (by decide))
        have := i_eq (show v54 37 0 4 = v51 37 0 4 by rw [ev54]; exact up3_t (by decide))
        have : ((v54 36 0 3).toInt = 0 ∧ (v54 36 0 4).toInt = 0) ∨ (0 < (v54 36 0 3).toInt ∧ 0 < (v54 36 0 4).toInt) := hI_v54.2.1
        refine ok_some ?_
        show IM v54 ∧ (Int32.toInt (v54 37 0 3) = Int32.toInt (v 37 0 3)) ∧ (Int32.toInt (v54 37 0 4) = Int32.toInt (v 37 0 4)) ∧ (Int32.toInt (v54 30 0 8) = Int32.toInt (v 30 0 8))
        refine ⟨hI_v54, ?_⟩
        omega
  · skip
    have ic27 := i_ne c27
    have : (0 : Int32).toInt = 0 := (by decide)
    refine ok_let (fun v55 ev55 => ?_)
    have hI_v55 : IM v55 := by rw [ev55]; exact hI_v23.upo (by decide) (by have h9 := i_bd (0 : Int32); exact ⟨h9.1, Int.le_of_lt_add_one h9.2⟩)
    have := i_eq (show v55 30 0 8 = v23 30 0 8 by rw [ev55]; exact up3_j (by decide))
    have := i_eq (show v55 30 0 9 = v23 30 0 9 by rw [ev55]; exact up3_j (by decide))
    have := i_eq (show v55 30 0 10 = v23 30 0 10 by rw [ev55]; exact up3_j (by decide))
    have := i_eq (show v55 30 0 11 = v23 30 0 11 by rw [ev55]; exact up3_j (by decide))
    have := i_eq (show v55 30 0 12 = 0 by rw [ev55]; exact up3_s)
    have : (0 : Int32).toInt = 0 := (by decide)
    have := i_eq (show v55 37 0 3 = v23 37 0 3 by rw [ev55]; exact up3_t (by decide))
    have := i_eq (show v55 37 0 4 = v23 37 0 4 by rw [ev55]; exact up3_t (by decide))
    have : ((v55 36 0 3).toInt = 0 ∧ (v55 36 0 4).toInt = 0) ∨ (0 < (v55 36 0 3).toInt ∧ 0 < (v55 36 0 4).toInt) := hI_v55.2.1
    exact loop38 2000 v55 r21 hI_v55 (by omega) (by omega) (by omega) (by omega)
set_option maxHeartbeats 4000000 in
theorem k_X8_isWell (v : Mm) (hI_v : IM v)  : ok (g_X8_isWell v ) (fun z => (0 : Int) ≤ Int32.toInt z ∧ Int32.toInt z ≤ (1 : Int) ∧ ((Int32.toInt z = 0 ∧ 0 ≤ Int32.toInt (v 30 0 8)) ∨ (Int32.toInt z = 1 ∧ Int32.toInt (v 30 0 8) < 0))) := by
  have : ((v 36 0 3).toInt = 0 ∧ (v 36 0 4).toInt = 0) ∨ (0 < (v 36 0 3).toInt ∧ 0 < (v 36 0 4).toInt) := hI_v.2.1
  unfold g_X8_isWell
  refine ok_ite _ (fun c1 => ?_) (fun c1 => ?_)
  · skip
    have ic1 := i_le c1
    have : (-1 : Int) ≤ (v 30 0 8).toInt ∧ (v 30 0 8).toInt ≤ (100 : Int) := hI_v.1 30 0 8
    have : (0 : Int32).toInt = 0 := (by decide)
    refine ok_some ?_
    show (0 : Int) ≤ Int32.toInt (0 : Int32) ∧ Int32.toInt (0 : Int32) ≤ (1 : Int) ∧ ((Int32.toInt (0 : Int32) = 0 ∧ 0 ≤ Int32.toInt (v 30 0 8)) ∨ (Int32.toInt (0 : Int32) = 1 ∧ Int32.toInt (v 30 0 8) < 0))
    have : (0 : Int32).toInt = 0 := (by decide)
    omega
  · skip
    have ic1 := i_nle c1
    have : (-1 : Int) ≤ (v 30 0 8).toInt ∧ (v 30 0 8).toInt ≤ (100 : Int) := hI_v.1 30 0 8
    have : (0 : Int32).toInt = 0 := (by decide)
    refine ok_some ?_
    show (0 : Int) ≤ Int32.toInt (1 : Int32) ∧ Int32.toInt (1 : Int32) ≤ (1 : Int) ∧ ((Int32.toInt (1 : Int32) = 0 ∧ 0 ≤ Int32.toInt (v 30 0 8)) ∨ (Int32.toInt (1 : Int32) = 1 ∧ Int32.toInt (v 30 0 8) < 0))
    have : (1 : Int32).toInt = 1 := (by decide)
    omega
set_option maxHeartbeats 4000000 in
theorem k_X8_takes (v : Mm) (hI_v : IM v) (a1 : Int32) (a2 : Int32) : ok (g_X8_takes v a1 a2) (fun z => IM z.2 ∧ (Int32.toInt (z.2 37 0 3) = Int32.toInt (v 37 0 3)) ∧ (Int32.toInt (z.2 37 0 4) = Int32.toInt (v 37 0 4)) ∧ (Int32.toInt (v 30 0 8) < 0 ∨ 0 ≤ Int32.toInt (z.2 30 0 8)) ∧ (¬ Int32.toInt a1 = 0 ∨ 0 ≤ Int32.toInt (z.2 30 0 8)) ∧ (Int32.toInt (z.1) = 0 ∨ (Int32.toInt (z.1) = Int32.toInt (v 30 0 12) ∧ ¬ Int32.toInt a1 = 0))) := by
  have : ((v 36 0 3).toInt = 0 ∧ (v 36 0 4).toInt = 0) ∨ (0 < (v 36 0 3).toInt ∧ 0 < (v 36 0 4).toInt) := hI_v.2.1
  unfold g_X8_takes
  refine ok_bind (k_X8_isWell v hI_v  ) (fun r2 hr2 => ?_)
  have hr2 : (0 : Int) ≤ Int32.toInt r2 ∧ Int32.toInt r2 ≤ (1 : Int) ∧ ((Int32.toInt r2 = 0 ∧ 0 ≤ Int32.toInt (v 30 0 8)) ∨ (Int32.toInt r2 = 1 ∧ Int32.toInt (v 30 0 8) < 0)) := hr2
  have : (-1 : Int) ≤ (v 30 0 8).toInt ∧ (v 30 0 8).toInt ≤ (100 : Int) := hI_v.1 30 0 8
  refine ok_ite _ (fun c4 => ?_) (fun c4 => ?_)
  · skip
    have ic4 := i_eq c4
    have : (0 : Int32).toInt = 0 := (by decide)
    refine ok_some ?_
    show IM v ∧ (Int32.toInt (v 37 0 3) = Int32.toInt (v 37 0 3)) ∧ (Int32.toInt (v 37 0 4) = Int32.toInt (v 37 0 4)) ∧ (Int32.toInt (v 30 0 8) < 0 ∨ 0 ≤ Int32.toInt (v 30 0 8)) ∧ (¬ Int32.toInt a1 = 0 ∨ 0 ≤ Int32.toInt (v 30 0 8)) ∧ (Int32.toInt (0 : Int32) = 0 ∨ (Int32.toInt (0 : Int32) = Int32.toInt (v 30 0 12) ∧ ¬ Int32.toInt a1 = 0))
    have : (0 : Int32).toInt = 0 := (by decide)
    refine ⟨hI_v, ?_⟩
    omega
  · skip
    have ic4 := i_ne c4
    have : (0 : Int32).toInt = 0 := (by decide)
    refine ok_ite _ (fun c5 => ?_) (fun c5 => ?_)
    · skip
      have ic5 := i_eq c5
      have : (0 : Int32).toInt = 0 := (by decide)
      refine ok_let (fun v6 ev6 => ?_)
      have hI_v6 : IM v6 := by
        rw [ev6]
        refine hI_v.upo (by decide) ?_
        show (-1 : Int) ≤ Int32.toInt (v 30 0 10) ∧ Int32.toInt (v 30 0 10) ≤ (100 : Int)
        have : (0 : Int) ≤ (v 30 0 10).toInt ∧ (v 30 0 10).toInt ≤ (100 : Int) := hI_v.1 30 0 10
        omega
      have := i_eq (show v6 30 0 7 = v 30 0 7 by rw [ev6]; exact up3_j (by decide))
      have := i_eq (show v6 30 0 8 = (v 30 0 10) by rw [ev6]; exact up3_s)
      have : (0 : Int) ≤ (v 30 0 10).toInt ∧ (v 30 0 10).toInt ≤ (100 : Int) := hI_v.1 30 0 10
      have := i_eq (show v6 30 0 10 = v 30 0 10 by rw [ev6]; exact up3_j (by decide))
      have := i_eq (show v6 30 0 12 = v 30 0 12 by rw [ev6]; exact up3_j (by decide))
      have := i_eq (show v6 37 0 3 = v 37 0 3 by rw [ev6]; exact up3_t (by decide))
      have := i_eq (show v6 37 0 4 = v 37 0 4 by rw [ev6]; exact up3_t (by decide))
      have : ((v6 36 0 3).toInt = 0 ∧ (v6 36 0 4).toInt = 0) ∨ (0 < (v6 36 0 3).toInt ∧ 0 < (v6 36 0 4).toInt) := hI_v6.2.1
      refine ok_let (fun v7 ev7 => ?_)
      have hI_v7 : IM v7 := by rw [ev7]; exact hI_v6.upo (by decide) (by have h9 := i_bd a2; exact ⟨h9.1, Int.le_of_lt_add_one h9.2⟩)
      have := i_eq (show v7 30 0 7 = a2 by rw [ev7]; exact up3_s)
      have := i_eq (show v7 30 0 8 = v6 30 0 8 by rw [ev7]; exact up3_j (by decide))
      have := i_eq (show v7 30 0 10 = v6 30 0 10 by rw [ev7]; exact up3_j (by decide))
      have := i_eq (show v7 30 0 12 = v6 30 0 12 by rw [ev7]; exact up3_j (by decide))
      have := i_eq (show v7 37 0 3 = v6 37 0 3 by rw [ev7]; exact up3_t (by decide))
      have := i_eq (show v7 37 0 4 = v6 37 0 4 by rw [ev7]; exact up3_t (by decide))
      have : ((v7 36 0 3).toInt = 0 ∧ (v7 36 0 4).toInt = 0) ∨ (0 < (v7 36 0 3).toInt ∧ 0 < (v7 36 0 4).toInt) := hI_v7.2.1
      refine ok_some ?_
      show IM v7 ∧ (Int32.toInt (v7 37 0 3) = Int32.toInt (v 37 0 3)) ∧ (Int32.toInt (v7 37 0 4) = Int32.toInt (v 37 0 4)) ∧ (Int32.toInt (v 30 0 8) < 0 ∨ 0 ≤ Int32.toInt (v7 30 0 8)) ∧ (¬ Int32.toInt a1 = 0 ∨ 0 ≤ Int32.toInt (v7 30 0 8)) ∧ (Int32.toInt (0 : Int32) = 0 ∨ (Int32.toInt (0 : Int32) = Int32.toInt (v 30 0 12) ∧ ¬ Int32.toInt a1 = 0))
      have : (0 : Int32).toInt = 0 := (by decide)
      refine ⟨hI_v7, ?_⟩
      omega
    · skip
      have ic5 := i_ne c5
      have : (0 : Int32).toInt = 0 := (by decide)
      refine ok_bind (k_X8_advances v hI_v  ) (fun v10 hr9 => ?_)
      have hr9 : IM v10 ∧ (Int32.toInt (v10 37 0 3) = Int32.toInt (v 37 0 3)) ∧ (Int32.toInt (v10 37 0 4) = Int32.toInt (v 37 0 4)) ∧ (Int32.toInt (v10 30 0 8) = Int32.toInt (v 30 0 8)) := hr9
      obtain ⟨hI_v10, hr9⟩ := hr9
      have : ((v10 36 0 3).toInt = 0 ∧ (v10 36 0 4).toInt = 0) ∨ (0 < (v10 36 0 3).toInt ∧ 0 < (v10 36 0 4).toInt) := hI_v10.2.1
      have : (0 : Int) ≤ (v 37 0 3).toInt ∧ (v 37 0 3).toInt ≤ (6 : Int) := hI_v.1 37 0 3
      have : (0 : Int) ≤ (v 37 0 4).toInt ∧ (v 37 0 4).toInt ≤ (4 : Int) := hI_v.1 37 0 4
      have : (-1 : Int) ≤ (v 30 0 8).toInt ∧ (v 30 0 8).toInt ≤ (100 : Int) := hI_v.1 30 0 8
      refine ok_some ?_
      show IM v10 ∧ (Int32.toInt (v10 37 0 3) = Int32.toInt (v 37 0 3)) ∧ (Int32.toInt (v10 37 0 4) = Int32.toInt (v 37 0 4)) ∧ (Int32.toInt (v 30 0 8) < 0 ∨ 0 ≤ Int32.toInt (v10 30 0 8)) ∧ (¬ Int32.toInt a1 = 0 ∨ 0 ≤ Int32.toInt (v10 30 0 8)) ∧ (Int32.toInt (v 30 0 12) = 0 ∨ (Int32.toInt (v 30 0 12) = Int32.toInt (v 30 0 12) ∧ ¬ Int32.toInt a1 = 0))
      refine ⟨hI_v10, ?_⟩
      omega
set_option maxHeartbeats 4000000 in
theorem k_X8_figure (v : Mm) (hI_v : IM v) (a1 : Int32) (a2 : Int32) (h_a1 : (0 : Int) ≤ a1.toInt ∧ a1.toInt ≤ (0 : Int)) (h_a2 : (0 : Int) ≤ a2.toInt ∧ a2.toInt ≤ (9 : Int)) : ok (g_X8_figure v a1 a2) (fun z => IM z.2 ∧ (0 : Int) ≤ Int32.toInt (z.1) ∧ Int32.toInt (z.1) ≤ (9 : Int) ∧ (Int32.toInt (z.2 37 0 3) = Int32.toInt (v 37 0 3)) ∧ (Int32.toInt (z.2 37 0 4) = Int32.toInt (v 37 0 4)) ∧ (Int32.toInt (v 30 0 8) < 0 ∨ 0 ≤ Int32.toInt (z.2 30 0 8)) ∧ (Int32.toInt (z.1) ≤ Int32.toInt a2)) := by
  have : ((v 36 0 3).toInt = 0 ∧ (v 36 0 4).toInt = 0) ∨ (0 < (v 36 0 3).toInt ∧ 0 < (v 36 0 4).toInt) := hI_v.2.1
  unfold g_X8_figure
  refine ok_bind (k_X8_isWell v hI_v  ) (fun r2 hr2 => ?_)
  have hr2 : (0 : Int) ≤ Int32.toInt r2 ∧ Int32.toInt r2 ≤ (1 : Int) ∧ ((Int32.toInt r2 = 0 ∧ 0 ≤ Int32.toInt (v 30 0 8)) ∨ (Int32.toInt r2 = 1 ∧ Int32.toInt (v 30 0 8) < 0)) := hr2
  have : (-1 : Int) ≤ (v 30 0 8).toInt ∧ (v 30 0 8).toInt ≤ (100 : Int) := hI_v.1 30 0 8
  refine ok_ite _ (fun c4 => ?_) (fun c4 => ?_)
  · skip
    have ic4 := i_eq c4
    have : (0 : Int32).toInt = 0 := (by decide)
    refine ok_bind (k_X8_in v hI_v (v 30 0 12) a1 a2 ) (fun r6 hr6 => ?_)
    have hr6 : (0 : Int) ≤ Int32.toInt r6 ∧ Int32.toInt r6 ≤ (1 : Int) ∧ (Int32.toInt r6 = 0 ∨ (Int32.toInt a1 ≤ Int32.toInt (v 30 0 12) ∧ Int32.toInt (v 30 0 12) ≤ Int32.toInt a2)) := hr6
    refine ok_kb2 (k_X8_takes v hI_v r6 2 ) (fun r9 v10 hr9 => ?_)
    have hr9 : IM v10 ∧ (Int32.toInt (v10 37 0 3) = Int32.toInt (v 37 0 3)) ∧ (Int32.toInt (v10 37 0 4) = Int32.toInt (v 37 0 4)) ∧ (Int32.toInt (v 30 0 8) < 0 ∨ 0 ≤ Int32.toInt (v10 30 0 8)) ∧ (¬ Int32.toInt r6 = 0 ∨ 0 ≤ Int32.toInt (v10 30 0 8)) ∧ (Int32.toInt r9 = 0 ∨ (Int32.toInt r9 = Int32.toInt (v 30 0 12) ∧ ¬ Int32.toInt r6 = 0)) := hr9
    obtain ⟨hI_v10, hr9⟩ := hr9
    have : ((v10 36 0 3).toInt = 0 ∧ (v10 36 0 4).toInt = 0) ∨ (0 < (v10 36 0 3).toInt ∧ 0 < (v10 36 0 4).toInt) := hI_v10.2.1
    have : (0 : Int) ≤ (v 37 0 3).toInt ∧ (v 37 0 3).toInt ≤ (6 : Int) := hI_v.1 37 0 3
    have : (0 : Int) ≤ (v 37 0 4).toInt ∧ (v 37 0 4).toInt ≤ (4 : Int) := hI_v.1 37 0 4
    have : (-1 : Int) ≤ (v 30 0 8).toInt ∧ (v 30 0 8).toInt ≤ (100 : Int) := hI_v.1 30 0 8
    have : (2 : Int32).toInt = 2 := (by decide)
    refine ok_some ?_
    show IM v10 ∧ (0 : Int) ≤ Int32.toInt r9 ∧ Int32.toInt r9 ≤ (9 : Int) ∧ (Int32.toInt (v10 37 0 3) = Int32.toInt (v 37 0 3)) ∧ (Int32.toInt (v10 37 0 4) = Int32.toInt (v 37 0 4)) ∧ (Int32.toInt (v 30 0 8) < 0 ∨ 0 ≤ Int32.toInt (v10 30 0 8)) ∧ (Int32.toInt r9 ≤ Int32.toInt a2)
    refine ⟨hI_v10, ?_⟩
    omega
  · skip
    have ic4 := i_ne c4
    have : (0 : Int32).toInt = 0 := (by decide)
    refine ok_ite _ (fun c11 => ?_) (fun c11 => ?_)
    · skip
      have ic11 := i_eq c11
      have : (0 : Int) ≤ (v 30 0 11).toInt ∧ (v 30 0 11).toInt ≤ (5 : Int) := hI_v.1 30 0 11
      have : (2 : Int32).toInt = 2 := (by decide)
      refine ok_bind (k_X8_in v hI_v (v 30 0 12) a1 a2 ) (fun r13 hr13 => ?_)
      have hr13 : (0 : Int) ≤ Int32.toInt r13 ∧ Int32.toInt r13 ≤ (1 : Int) ∧ (Int32.toInt r13 = 0 ∨ (Int32.toInt a1 ≤ Int32.toInt (v 30 0 12) ∧ Int32.toInt (v 30 0 12) ≤ Int32.toInt a2)) := hr13
      refine ok_kb2 (k_X8_takes v hI_v r13 2 ) (fun r16 v17 hr16 => ?_)
      have hr16 : IM v17 ∧ (Int32.toInt (v17 37 0 3) = Int32.toInt (v 37 0 3)) ∧ (Int32.toInt (v17 37 0 4) = Int32.toInt (v 37 0 4)) ∧ (Int32.toInt (v 30 0 8) < 0 ∨ 0 ≤ Int32.toInt (v17 30 0 8)) ∧ (¬ Int32.toInt r13 = 0 ∨ 0 ≤ Int32.toInt (v17 30 0 8)) ∧ (Int32.toInt r16 = 0 ∨ (Int32.toInt r16 = Int32.toInt (v 30 0 12) ∧ ¬ Int32.toInt r13 = 0)) := hr16
      obtain ⟨hI_v17, hr16⟩ := hr16
      have : ((v17 36 0 3).toInt = 0 ∧ (v17 36 0 4).toInt = 0) ∨ (0 < (v17 36 0 3).toInt ∧ 0 < (v17 36 0 4).toInt) := hI_v17.2.1
      have : (0 : Int) ≤ (v 37 0 3).toInt ∧ (v 37 0 3).toInt ≤ (6 : Int) := hI_v.1 37 0 3
      have : (0 : Int) ≤ (v 37 0 4).toInt ∧ (v 37 0 4).toInt ≤ (4 : Int) := hI_v.1 37 0 4
      have : (-1 : Int) ≤ (v 30 0 8).toInt ∧ (v 30 0 8).toInt ≤ (100 : Int) := hI_v.1 30 0 8
      have : (2 : Int32).toInt = 2 := (by decide)
      refine ok_some ?_
      show IM v17 ∧ (0 : Int) ≤ Int32.toInt r16 ∧ Int32.toInt r16 ≤ (9 : Int) ∧ (Int32.toInt (v17 37 0 3) = Int32.toInt (v 37 0 3)) ∧ (Int32.toInt (v17 37 0 4) = Int32.toInt (v 37 0 4)) ∧ (Int32.toInt (v 30 0 8) < 0 ∨ 0 ≤ Int32.toInt (v17 30 0 8)) ∧ (Int32.toInt r16 ≤ Int32.toInt a2)
      refine ⟨hI_v17, ?_⟩
      omega
    · skip
      have ic11 := i_ne c11
      have : (0 : Int) ≤ (v 30 0 11).toInt ∧ (v 30 0 11).toInt ≤ (5 : Int) := hI_v.1 30 0 11
      have : (2 : Int32).toInt = 2 := (by decide)
      refine ok_kb2 (k_X8_takes v hI_v 0 1 ) (fun r19 v20 hr19 => ?_)
      have hr19 : IM v20 ∧ (Int32.toInt (v20 37 0 3) = Int32.toInt (v 37 0 3)) ∧ (Int32.toInt (v20 37 0 4) = Int32.toInt (v 37 0 4)) ∧ (Int32.toInt (v 30 0 8) < 0 ∨ 0 ≤ Int32.toInt (v20 30 0 8)) ∧ (¬ Int32.toInt 0 = 0 ∨ 0 ≤ Int32.toInt (v20 30 0 8)) ∧ (Int32.toInt r19 = 0 ∨ (Int32.toInt r19 = Int32.toInt (v 30 0 12) ∧ ¬ Int32.toInt 0 = 0)) := hr19
      obtain ⟨hI_v20, hr19⟩ := hr19
      have : ((v20 36 0 3).toInt = 0 ∧ (v20 36 0 4).toInt = 0) ∨ (0 < (v20 36 0 3).toInt ∧ 0 < (v20 36 0 4).toInt) := hI_v20.2.1
      have : (0 : Int) ≤ (v 37 0 3).toInt ∧ (v 37 0 3).toInt ≤ (6 : Int) := hI_v.1 37 0 3
      have : (0 : Int) ≤ (v 37 0 4).toInt ∧ (v 37 0 4).toInt ≤ (4 : Int) := hI_v.1 37 0 4
      have : (-1 : Int) ≤ (v 30 0 8).toInt ∧ (v 30 0 8).toInt ≤ (100 : Int) := hI_v.1 30 0 8
      have : (0 : Int32).toInt = 0 := (by decide)
      have : (1 : Int32).toInt = 1 := (by decide)
      refine ok_some ?_
      show IM v20 ∧ (0 : Int) ≤ Int32.toInt r19 ∧ Int32.toInt r19 ≤ (9 : Int) ∧ (Int32.toInt (v20 37 0 3) = Int32.toInt (v 37 0 3)) ∧ (Int32.toInt (v20 37 0 4) = Int32.toInt (v 37 0 4)) ∧ (Int32.toInt (v 30 0 8) < 0 ∨ 0 ≤ Int32.toInt (v20 30 0 8)) ∧ (Int32.toInt r19 ≤ Int32.toInt a2)
      refine ⟨hI_v20, ?_⟩
      omega
set_option maxHeartbeats 4000000 in
theorem k_X8_kindOf (v : Mm) (hI_v : IM v) (a0 : Int32) : ok (g_X8_kindOf v a0) (fun z => ((Int32.toInt z = 0 ∧ ¬ (Int32.toInt a0 = 107 ∨ Int32.toInt a0 = 115 ∨ Int32.toInt a0 = 101 ∨ Int32.toInt a0 = 100 ∨ Int32.toInt a0 = 103)) ∨ (1 ≤ Int32.toInt z ∧ (Int32.toInt a0 = 107 ∨ Int32.toInt a0 = 115 ∨ Int32.toInt a0 = 101 ∨ Int32.toInt a0 = 100 ∨ Int32.toInt a0 = 103)))) := by
  have : ((v 36 0 3).toInt = 0 ∧ (v 36 0 4).toInt = 0) ∨ (0 < (v 36 0 3).toInt ∧ 0 < (v 36 0 4).toInt) := hI_v.2.1
  unfold g_X8_kindOf
  refine ok_ite _ (fun c1 => ?_) (fun c1 => ?_)
  · skip
    have ic1 := i_eq c1
    have : (107 : Int32).toInt = 107 := (by decide)
    refine ok_some ?_
    show ((Int32.toInt (1 : Int32) = 0 ∧ ¬ (Int32.toInt a0 = 107 ∨ Int32.toInt a0 = 115 ∨ Int32.toInt a0 = 101 ∨ Int32.toInt a0 = 100 ∨ Int32.toInt a0 = 103)) ∨ (1 ≤ Int32.toInt (1 : Int32) ∧ (Int32.toInt a0 = 107 ∨ Int32.toInt a0 = 115 ∨ Int32.toInt a0 = 101 ∨ Int32.toInt a0 = 100 ∨ Int32.toInt a0 = 103)))
    have : (1 : Int32).toInt = 1 := (by decide)
    omega
  · skip
    have ic1 := i_ne c1
    have : (107 : Int32).toInt = 107 := (by decide)
    refine ok_ite _ (fun c2 => ?_) (fun c2 => ?_)
    · skip
      have ic2 := i_eq c2
      have : (115 : Int32).toInt = 115 := (by decide)
      refine ok_some ?_
      show ((Int32.toInt (2 : Int32) = 0 ∧ ¬ (Int32.toInt a0 = 107 ∨ Int32.toInt a0 = 115 ∨ Int32.toInt a0 = 101 ∨ Int32.toInt a0 = 100 ∨ Int32.toInt a0 = 103)) ∨ (1 ≤ Int32.toInt (2 : Int32) ∧ (Int32.toInt a0 = 107 ∨ Int32.toInt a0 = 115 ∨ Int32.toInt a0 = 101 ∨ Int32.toInt a0 = 100 ∨ Int32.toInt a0 = 103)))
      have : (2 : Int32).toInt = 2 := (by decide)
      omega
    · skip
      have ic2 := i_ne c2
      have : (115 : Int32).toInt = 115 := (by decide)
      refine ok_ite _ (fun c3 => ?_) (fun c3 => ?_)
      · skip
        have ic3 := i_eq c3
        have : (101 : Int32).toInt = 101 := (by decide)
        refine ok_some ?_
        show ((Int32.toInt (3 : Int32) = 0 ∧ ¬ (Int32.toInt a0 = 107 ∨ Int32.toInt a0 = 115 ∨ Int32.toInt a0 = 101 ∨ Int32.toInt a0 = 100 ∨ Int32.toInt a0 = 103)) ∨ (1 ≤ Int32.toInt (3 : Int32) ∧ (Int32.toInt a0 = 107 ∨ Int32.toInt a0 = 115 ∨ Int32.toInt a0 = 101 ∨ Int32.toInt a0 = 100 ∨ Int32.toInt a0 = 103)))
        have : (3 : Int32).toInt = 3 := (by decide)
        omega
      · skip
        have ic3 := i_ne c3
        have : (101 : Int32).toInt = 101 := (by decide)
        refine ok_ite _ (fun c4 => ?_) (fun c4 => ?_)
        · skip
          have ic4 := i_eq c4
          have : (100 : Int32).toInt = 100 := (by decide)
          refine ok_some ?_
          show ((Int32.toInt (4 : Int32) = 0 ∧ ¬ (Int32.toInt a0 = 107 ∨ Int32.toInt a0 = 115 ∨ Int32.toInt a0 = 101 ∨ Int32.toInt a0 = 100 ∨ Int32.toInt a0 = 103)) ∨ (1 ≤ Int32.toInt (4 : Int32) ∧ (Int32.toInt a0 = 107 ∨ Int32.toInt a0 = 115 ∨ Int32.toInt a0 = 101 ∨ Int32.toInt a0 = 100 ∨ Int32.toInt a0 = 103)))
          have : (4 : Int32).toInt = 4 := (by decide)
          omega
        · skip
          have ic4 := i_ne c4
          have : (100 : Int32).toInt = 100 := (by decide)
          refine ok_ite _ (fun c5 => ?_) (fun c5 => ?_)
          · skip
            have ic5 := i_eq c5
            have : (103 : Int32).toInt = 103 := (by decide)
            refine ok_some ?_
            show ((Int32.toInt (5 : Int32) = 0 ∧ ¬ (Int32.toInt a0 = 107 ∨ Int32.toInt a0 = 115 ∨ Int32.toInt a0 = 101 ∨ Int32.toInt a0 = 100 ∨ Int32.toInt a0 = 103)) ∨ (1 ≤ Int32.toInt (5 : Int32) ∧ (Int32.toInt a0 = 107 ∨ Int32.toInt a0 = 115 ∨ Int32.toInt a0 = 101 ∨ Int32.toInt a0 = 100 ∨ Int32.toInt a0 = 103)))
            have : (5 : Int32).toInt = 5 := (by decide)
            omega
          · skip
            have ic5 := i_ne c5
            have : (103 : Int32).toInt = 103 := (by decide)
            refine ok_some ?_
            show ((Int32.toInt (0 : Int32) = 0 ∧ ¬ (Int32.toInt a0 = 107 ∨ Int32.toInt a0 = 115 ∨ Int32.toInt a0 = 101 ∨ Int32.toInt a0 = 100 ∨ Int32.toInt a0 = 103)) ∨ (1 ≤ Int32.toInt (0 : Int32) ∧ (Int32.toInt a0 = 107 ∨ Int32.toInt a0 = 115 ∨ Int32.toInt a0 = 101 ∨ Int32.toInt a0 = 100 ∨ Int32.toInt a0 = 103)))
            have : (0 : Int32).toInt = 0 := (by decide)
            omega
set_option maxHeartbeats 4000000 in
theorem k_X8_follows (v : Mm) (hI_v : IM v) (a1 : Int32) (a2 : Int32) (h_a1 : (0 : Int) ≤ a1.toInt ∧ a1.toInt ≤ (0 : Int)) (h_a2 : (0 : Int) ≤ a2.toInt ∧ a2.toInt ≤ (9 : Int)) : ok (g_X8_follows v a1 a2) (fun z => IM z.2 ∧ (0 : Int) ≤ Int32.toInt (z.1) ∧ Int32.toInt (z.1) ≤ (9 : Int) ∧ (Int32.toInt (z.2 37 0 3) = Int32.toInt (v 37 0 3)) ∧ (Int32.toInt (z.2 37 0 4) = Int32.toInt (v 37 0 4)) ∧ (Int32.toInt (v 30 0 8) < 0 ∨ 0 ≤ Int32.toInt (z.2 30 0 8)) ∧ (Int32.toInt (z.1) ≤ Int32.toInt a2)) := by
  have : ((v 36 0 3).toInt = 0 ∧ (v 36 0 4).toInt = 0) ∨ (0 < (v 36 0 3).toInt ∧ 0 < (v 36 0 4).toInt) := hI_v.2.1
  unfold g_X8_follows
  refine ok_ite _ (fun c1 => ?_) (fun c1 => ?_)
  · skip
    have ic1 := i_eq c1
    have : (0 : Int) ≤ (v 30 0 11).toInt ∧ (v 30 0 11).toInt ≤ (5 : Int) := hI_v.1 30 0 11
    have : (3 : Int32).toInt = 3 := (by decide)
    refine ok_kb2 (k_X8_takes v hI_v 1 1 ) (fun r3 v4 hr3 => ?_)
    have hr3 : IM v4 ∧ (Int32.toInt (v4 37 0 3) = Int32.toInt (v 37 0 3)) ∧ (Int32.toInt (v4 37 0 4) = Int32.toInt (v 37 0 4)) ∧ (Int32.toInt (v 30 0 8) < 0 ∨ 0 ≤ Int32.toInt (v4 30 0 8)) ∧ (¬ Int32.toInt 1 = 0 ∨ 0 ≤ Int32.toInt (v4 30 0 8)) ∧ (Int32.toInt r3 = 0 ∨ (Int32.toInt r3 = Int32.toInt (v 30 0 12) ∧ ¬ Int32.toInt 1 = 0)) := hr3
    obtain ⟨hI_v4, hr3⟩ := hr3
    have : ((v4 36 0 3).toInt = 0 ∧ (v4 36 0 4).toInt = 0) ∨ (0 < (v4 36 0 3).toInt ∧ 0 < (v4 36 0 4).toInt) := hI_v4.2.1
    have : (0 : Int) ≤ (v 37 0 3).toInt ∧ (v 37 0 3).toInt ≤ (6 : Int) := hI_v.1 37 0 3
    have : (0 : Int) ≤ (v 37 0 4).toInt ∧ (v 37 0 4).toInt ≤ (4 : Int) := hI_v.1 37 0 4
    have : (-1 : Int) ≤ (v 30 0 8).toInt ∧ (v 30 0 8).toInt ≤ (100 : Int) := hI_v.1 30 0 8
    have : (1 : Int32).toInt = 1 := (by decide)
    refine ok_kb2 (k_X8_figure v4 hI_v4 a1 a2 (by omega) (by omega)) (fun r6 v7 hr6 => ?_)
    have hr6 : IM v7 ∧ (0 : Int) ≤ Int32.toInt r6 ∧ Int32.toInt r6 ≤ (9 : Int) ∧ (Int32.toInt (v7 37 0 3) = Int32.toInt (v4 37 0 3)) ∧ (Int32.toInt (v7 37 0 4) = Int32.toInt (v4 37 0 4)) ∧ (Int32.toInt (v4 30 0 8) < 0 ∨ 0 ≤ Int32.toInt (v7 30 0 8)) ∧ (Int32.toInt r6 ≤ Int32.toInt a2) := hr6
    obtain ⟨hI_v7, hr6⟩ := hr6
    have : ((v7 36 0 3).toInt = 0 ∧ (v7 36 0 4).toInt = 0) ∨ (0 < (v7 36 0 3).toInt ∧ 0 < (v7 36 0 4).toInt) := hI_v7.2.1
    have : (0 : Int) ≤ (v4 37 0 3).toInt ∧ (v4 37 0 3).toInt ≤ (6 : Int) := hI_v4.1 37 0 3
    have : (0 : Int) ≤ (v4 37 0 4).toInt ∧ (v4 37 0 4).toInt ≤ (4 : Int) := hI_v4.1 37 0 4
    have : (-1 : Int) ≤ (v4 30 0 8).toInt ∧ (v4 30 0 8).toInt ≤ (100 : Int) := hI_v4.1 30 0 8
    refine ok_some ?_
    show IM v7 ∧ (0 : Int) ≤ Int32.toInt r6 ∧ Int32.toInt r6 ≤ (9 : Int) ∧ (Int32.toInt (v7 37 0 3) = Int32.toInt (v 37 0 3)) ∧ (Int32.toInt (v7 37 0 4) = Int32.toInt (v 37 0 4)) ∧ (Int32.toInt (v 30 0 8) < 0 ∨ 0 ≤ Int32.toInt (v7 30 0 8)) ∧ (Int32.toInt r6 ≤ Int32.toInt a2)
    refine ⟨hI_v7, ?_⟩
    omega
  · skip
    have ic1 := i_ne c1
    have : (0 : Int) ≤ (v 30 0 11).toInt ∧ (v 30 0 11).toInt ≤ (5 : Int) := hI_v.1 30 0 11
    have : (3 : Int32).toInt = 3 := (by decide)
    refine ok_kb2 (k_X8_takes v hI_v 0 1 ) (fun r9 v10 hr9 => ?_)
    have hr9 : IM v10 ∧ (Int32.toInt (v10 37 0 3) = Int32.toInt (v 37 0 3)) ∧ (Int32.toInt (v10 37 0 4) = Int32.toInt (v 37 0 4)) ∧ (Int32.toInt (v 30 0 8) < 0 ∨ 0 ≤ Int32.toInt (v10 30 0 8)) ∧ (¬ Int32.toInt 0 = 0 ∨ 0 ≤ Int32.toInt (v10 30 0 8)) ∧ (Int32.toInt r9 = 0 ∨ (Int32.toInt r9 = Int32.toInt (v 30 0 12) ∧ ¬ Int32.toInt 0 = 0)) := hr9
    obtain ⟨hI_v10, hr9⟩ := hr9
    have : ((v10 36 0 3).toInt = 0 ∧ (v10 36 0 4).toInt = 0) ∨ (0 < (v10 36 0 3).toInt ∧ 0 < (v10 36 0 4).toInt) := hI_v10.2.1
    have : (0 : Int) ≤ (v 37 0 3).toInt ∧ (v 37 0 3).toInt ≤ (6 : Int) := hI_v.1 37 0 3
    have : (0 : Int) ≤ (v 37 0 4).toInt ∧ (v 37 0 4).toInt ≤ (4 : Int) := hI_v.1 37 0 4
    have : (-1 : Int) ≤ (v 30 0 8).toInt ∧ (v 30 0 8).toInt ≤ (100 : Int) := hI_v.1 30 0 8
    have : (0 : Int32).toInt = 0 := (by decide)
    have : (1 : Int32).toInt = 1 := (by decide)
    refine ok_kb2 (k_X8_figure v10 hI_v10 a1 a2 (by omega) (by omega)) (fun r12 v13 hr12 => ?_)
    have hr12 : IM v13 ∧ (0 : Int) ≤ Int32.toInt r12 ∧ Int32.toInt r12 ≤ (9 : Int) ∧ (Int32.toInt (v13 37 0 3) = Int32.toInt (v10 37 0 3)) ∧ (Int32.toInt (v13 37 0 4) = Int32.toInt (v10 37 0 4)) ∧ (Int32.toInt (v10 30 0 8) < 0 ∨ 0 ≤ Int32.toInt (v13 30 0 8)) ∧ (Int32.toInt r12 ≤ Int32.toInt a2) := hr12
    obtain ⟨hI_v13, hr12⟩ := hr12
    have : ((v13 36 0 3).toInt = 0 ∧ (v13 36 0 4).toInt = 0) ∨ (0 < (v13 36 0 3).toInt ∧ 0 < (v13 36 0 4).toInt) := hI_v13.2.1
    have : (0 : Int) ≤ (v10 37 0 3).toInt ∧ (v10 37 0 3).toInt ≤ (6 : Int) := hI_v10.1 37 0 3
    have : (0 : Int) ≤ (v10 37 0 4).toInt ∧ (v10 37 0 4).toInt ≤ (4 : Int) := hI_v10.1 37 0 4
    have : (-1 : Int) ≤ (v10 30 0 8).toInt ∧ (v10 30 0 8).toInt ≤ (100 : Int) := hI_v10.1 30 0 8
    refine ok_some ?_
    show IM v13 ∧ (0 : Int) ≤ Int32.toInt r12 ∧ Int32.toInt r12 ≤ (9 : Int) ∧ (Int32.toInt (v13 37 0 3) = Int32.toInt (v 37 0 3)) ∧ (Int32.toInt (v13 37 0 4) = Int32.toInt (v 37 0 4)) ∧ (Int32.toInt (v 30 0 8) < 0 ∨ 0 ≤ Int32.toInt (v13 30 0 8)) ∧ (Int32.toInt r12 ≤ Int32.toInt a2)
    refine ⟨hI_v13, ?_⟩
    omega
set_option maxHeartbeats 4000000 in
theorem k_X8_isTold (v : Mm) (hI_v : IM v) (a1 : Int32) (a2 : Int32) (a3 : Int32) : ok (g_X8_isTold v a1 a2 a3) (fun z => (0 : Int) ≤ Int32.toInt z ∧ Int32.toInt z ≤ (1 : Int)) := by
  have : ((v 36 0 3).toInt = 0 ∧ (v 36 0 4).toInt = 0) ∨ (0 < (v 36 0 3).toInt ∧ 0 < (v 36 0 4).toInt) := hI_v.2.1
  have loop6 : ∀ (n6 : Nat) (x4_6 : Int32) (x5_6 : Int32), ((0 : Int) ≤ Int32.toInt x5_6 ∧ Int32.toInt x5_6 ≤ (6 : Int)) → (6 - Int32.toInt x5_6 < (n6 : Int)) → ok (g_X8_isTold_L6  v a1 a2 a3 n6 x4_6 x5_6) (fun z => (0 : Int) ≤ Int32.toInt z ∧ Int32.toInt z ≤ (1 : Int)) := by
    intro n6
    induction n6 with
    | zero =>
      intro x4_6 x5_6 hv0_6 hm6
      exfalso
      omega
    | succ n6 ih6 =>
      intro x4_6 x5_6 hv0_6 hm6
      show ok (b_X8_isTold_L6  (g_X8_isTold_L6  v a1 a2 a3 n6) v a1 a2 a3 x4_6 x5_6) _
      unfold b_X8_isTold_L6
      try rw [tc_3]
      refine ok_ite _ (fun c1 => ?_) (fun c1 => ?_)
      · skip
        have ic1 := i_le c1
        have : (0 : Int) ≤ (v 37 0 3).toInt ∧ (v 37 0 3).toInt ≤ (6 : Int) := hI_v.1 37 0 3
        refine ok_some ?_
        show (0 : Int) ≤ Int32.toInt x4_6 ∧ Int32.toInt x4_6 ≤ (1 : Int)
        omega
      · skip
        have ic1 := i_nle c1
        have : (0 : Int) ≤ (v 37 0 3).toInt ∧ (v 37 0 3).toInt ≤ (6 : Int) := hI_v.1 37 0 3
        refine ok_ite _ (fun c2 => ?_) (fun c2 => ?_)
        · skip
          have ic2 := i_eq c2
          have : (0 : Int32).toInt = 0 := (by decide)
          refine ok_grd _ ?_ ?_
          · skip
            have : (8 : Int32).toInt = 8 := (by decide)
            have : (3 : Int32).toInt = 3 := (by decide)
            (first | have := sp_cmulx (3 : Int32) x5_6 3 (by decide) (by omega) | obtain ⟨k1, hk1⟩ := sp_cmul (3 : Int32) x5_6 3 (by decide))
            (first | have := sp_addx (8 : Int32) ((3 : Int32) * x5_6) (by omega) | obtain ⟨k2, hk2⟩ := sp_add (8 : Int32) ((3 : Int32) * x5_6))
            exact gr (by omega) (by omega)
          refine ok_ite _ (fun c4 => ?_) (fun c4 => ?_)
          · skip
            have ic4 := i_eq c4
            refine ok_grd _ ?_ ?_
            · skip
              have : (8 : Int32).toInt = 8 := (by decide)
              have : (3 : Int32).toInt = 3 := (by decide)
              (first | have := sp_cmulx (3 : Int32) x5_6 3 (by decide) (by omega) | obtain ⟨k3, hk3⟩ := sp_cmul (3 : Int32) x5_6 3 (by decide))
              (first | have := sp_addx (8 : Int32) ((3 : Int32) * x5_6) (by omega) | obtain ⟨k4, hk4⟩ := sp_add (8 : Int32) ((3 : Int32) * x5_6))
              have : (1 : Int32).toInt = 1 := (by decide)
              (first | have := sp_addx ((8 : Int32) + ((3 : Int32) * x5_6)) (1 : Int32) (by omega) | obtain ⟨k5, hk5⟩ := sp_add ((8 : Int32) + ((3 : Int32) * x5_6)) (1 : Int32))
              exact gr (by omega) (by omega)
            refine ok_ite _ (fun c6 => ?_) (fun c6 => ?_)
            · skip
              have ic6 := i_eq c6
              refine ok_grd _ ?_ ?_
              · skip
                have : (8 : Int32).toInt = 8 := (by decide)
                have : (3 : Int32).toInt = 3 := (by decide)
                (first | have := sp_cmulx (3 : Int32) x5_6 3 (by decide) (by omega) | obtain ⟨k6, hk6⟩ := sp_cmul (3 : Int32) x5_6 3 (by decide))
                (first | have := sp_addx (8 : Int32) ((3 : Int32) * x5_6) (by omega) | obtain ⟨k7, hk7⟩ := sp_add (8 : Int32) ((3 : Int32) * x5_6))
                have : (2 : Int32).toInt = 2 := (by decide)
                (first | have := sp_addx ((8 : Int32) + ((3 : Int32) * x5_6)) (2 : Int32) (by omega) | obtain ⟨k8, hk8⟩ := sp_add ((8 : Int32) + ((3 : Int32) * x5_6)) (2 : Int32))
                exact gr (by omega) (by omega)
              refine ok_ite _ (fun c8 => ?_) (fun c8 => ?_)
              · skip
                have ic8 := i_eq c8
                have : (1 : Int32).toInt = 1 := (by decide)
                have := i_bd x5_6
                (first | have := sp_addx x5_6 (1 : Int32) (by omega) | obtain ⟨k9, hk9⟩ := sp_add x5_6 (1 : Int32))
                exact ih6 1 (x5_6 + 1) (by omega) (by omega)
              · skip
                have ic8 := i_ne c8
                have : (0 : Int32).toInt = 0 := (by decide)
                have : (1 : Int32).toInt = 1 := (by decide)
                have := i_bd x5_6
                (first | have := sp_addx x5_6 (1 : Int32) (by omega) | obtain ⟨k10, hk10⟩ := sp_add x5_6 (1 : Int32))
                exact ih6 0 (x5_6 + 1) (by omega) (by omega)
            · skip
              have ic6 := i_ne c6
              have : (0 : Int32).toInt = 0 := (by decide)
              have : (1 : Int32).toInt = 1 := (by decide)
              have := i_bd x5_6
              (first | have := sp_addx x5_6 (1 : Int32) (by omega) | obtain ⟨k11, hk11⟩ := sp_add x5_6 (1 : Int32))
              exact ih6 0 (x5_6 + 1) (by omega) (by omega)
          · skip
            have ic4 := i_ne c4
            have : (0 : Int32).toInt = 0 := (by decide)
            have : (1 : Int32).toInt = 1 := (by decide)
            have := i_bd x5_6
            (first | have := sp_addx x5_6 (1 : Int32) (by omega) | obtain ⟨k12, hk12⟩ := sp_add x5_6 (1 : Int32))
            exact ih6 0 (x5_6 + 1) (by omega) (by omega)
        · skip
          have ic2 := i_ne c2
          have : (0 : Int32).toInt = 0 := (by decide)
          have : (1 : Int32).toInt = 1 := (by decide)
          have := i_bd x5_6
          (first | have := sp_addx x5_6 (1 : Int32) (by omega) | obtain ⟨k13, hk13⟩ := sp_add x5_6 (1 : Int32))
          exact ih6 1 (x5_6 + 1) (by omega) (by omega)
  unfold g_X8_isTold
  try rw [tc_3]
  have : (0 : Int32).toInt = 0 := (by decide)
  exact loop6 2000 0 0 (by omega) (by omega)
set_option maxHeartbeats 4000000 in
theorem k_X8_letterOf (v : Mm) (hI_v : IM v)  : ok (g_X8_letterOf v ) (fun z => IM z.2 ∧ (Int32.toInt (z.2 37 0 3) = Int32.toInt (v 37 0 3)) ∧ (Int32.toInt (z.2 37 0 4) = Int32.toInt (v 37 0 4)) ∧ (Int32.toInt (v 30 0 8) < 0 ∨ 0 ≤ Int32.toInt (z.2 30 0 8))) := by
  have : ((v 36 0 3).toInt = 0 ∧ (v 36 0 4).toInt = 0) ∨ (0 < (v 36 0 3).toInt ∧ 0 < (v 36 0 4).toInt) := hI_v.2.1
  unfold g_X8_letterOf
  refine ok_ite _ (fun c1 => ?_) (fun c1 => ?_)
  · skip
    have ic1 := i_eq c1
    have : (0 : Int) ≤ (v 30 0 11).toInt ∧ (v 30 0 11).toInt ≤ (5 : Int) := hI_v.1 30 0 11
    have : (1 : Int32).toInt = 1 := (by decide)
    refine ok_kb2 (k_X8_takes v hI_v 1 1 ) (fun r3 v4 hr3 => ?_)
    have hr3 : IM v4 ∧ (Int32.toInt (v4 37 0 3) = Int32.toInt (v 37 0 3)) ∧ (Int32.toInt (v4 37 0 4) = Int32.toInt (v 37 0 4)) ∧ (Int32.toInt (v 30 0 8) < 0 ∨ 0 ≤ Int32.toInt (v4 30 0 8)) ∧ (¬ Int32.toInt 1 = 0 ∨ 0 ≤ Int32.toInt (v4 30 0 8)) ∧ (Int32.toInt r3 = 0 ∨ (Int32.toInt r3 = Int32.toInt (v 30 0 12) ∧ ¬ Int32.toInt 1 = 0)) := hr3
    obtain ⟨hI_v4, hr3⟩ := hr3
    have : ((v4 36 0 3).toInt = 0 ∧ (v4 36 0 4).toInt = 0) ∨ (0 < (v4 36 0 3).toInt ∧ 0 < (v4 36 0 4).toInt) := hI_v4.2.1
    have : (0 : Int) ≤ (v 37 0 3).toInt ∧ (v 37 0 3).toInt ≤ (6 : Int) := hI_v.1 37 0 3
    have : (0 : Int) ≤ (v 37 0 4).toInt ∧ (v 37 0 4).toInt ≤ (4 : Int) := hI_v.1 37 0 4
    have : (-1 : Int) ≤ (v 30 0 8).toInt ∧ (v 30 0 8).toInt ≤ (100 : Int) := hI_v.1 30 0 8
    have : (1 : Int32).toInt = 1 := (by decide)
    refine ok_some ?_
    show IM v4 ∧ (Int32.toInt (v4 37 0 3) = Int32.toInt (v 37 0 3)) ∧ (Int32.toInt (v4 37 0 4) = Int32.toInt (v 37 0 4)) ∧ (Int32.toInt (v 30 0 8) < 0 ∨ 0 ≤ Int32.toInt (v4 30 0 8))
    have : (97 : Int32).toInt = 97 := (by decide)
    have := i_bd r3
    (first | have := sp_subx r3 (97 : Int32) (by omega) | obtain ⟨k1, hk1⟩ := sp_sub r3 (97 : Int32))
    refine ⟨hI_v4, ?_⟩
    omega
  · skip
    have ic1 := i_ne c1
    have : (0 : Int) ≤ (v 30 0 11).toInt ∧ (v 30 0 11).toInt ≤ (5 : Int) := hI_v.1 30 0 11
    have : (1 : Int32).toInt = 1 := (by decide)
    refine ok_kb2 (k_X8_takes v hI_v 0 1 ) (fun r6 v7 hr6 => ?_)
    have hr6 : IM v7 ∧ (Int32.toInt (v7 37 0 3) = Int32.toInt (v 37 0 3)) ∧ (Int32.toInt (v7 37 0 4) = Int32.toInt (v 37 0 4)) ∧ (Int32.toInt (v 30 0 8) < 0 ∨ 0 ≤ Int32.toInt (v7 30 0 8)) ∧ (¬ Int32.toInt 0 = 0 ∨ 0 ≤ Int32.toInt (v7 30 0 8)) ∧ (Int32.toInt r6 = 0 ∨ (Int32.toInt r6 = Int32.toInt (v 30 0 12) ∧ ¬ Int32.toInt 0 = 0)) := hr6
    obtain ⟨hI_v7, hr6⟩ := hr6
    have : ((v7 36 0 3).toInt = 0 ∧ (v7 36 0 4).toInt = 0) ∨ (0 < (v7 36 0 3).toInt ∧ 0 < (v7 36 0 4).toInt) := hI_v7.2.1
    have : (0 : Int) ≤ (v 37 0 3).toInt ∧ (v 37 0 3).toInt ≤ (6 : Int) := hI_v.1 37 0 3
    have : (0 : Int) ≤ (v 37 0 4).toInt ∧ (v 37 0 4).toInt ≤ (4 : Int) := hI_v.1 37 0 4
    have : (-1 : Int) ≤ (v 30 0 8).toInt ∧ (v 30 0 8).toInt ≤ (100 : Int) := hI_v.1 30 0 8
    have : (0 : Int32).toInt = 0 := (by decide)
    have : (1 : Int32).toInt = 1 := (by decide)
    refine ok_some ?_
    show IM v7 ∧ (Int32.toInt (v7 37 0 3) = Int32.toInt (v 37 0 3)) ∧ (Int32.toInt (v7 37 0 4) = Int32.toInt (v 37 0 4)) ∧ (Int32.toInt (v 30 0 8) < 0 ∨ 0 ≤ Int32.toInt (v7 30 0 8))
    have : (97 : Int32).toInt = 97 := (by decide)
    have := i_bd r6
    (first | have := sp_subx r6 (97 : Int32) (by omega) | obtain ⟨k2, hk2⟩ := sp_sub r6 (97 : Int32))
    refine ⟨hI_v7, ?_⟩
    omega
set_option maxHeartbeats 4000000 in
theorem k_X8_readsWord (v : Mm) (hI_v : IM v)  : ok (g_X8_readsWord v ) (fun z => IM z ∧ (Int32.toInt (z 37 0 4) = Int32.toInt (v 37 0 4)) ∧ ((Int32.toInt (v 30 0 8) < 0 ∧ Int32.toInt (z 37 0 3) = Int32.toInt (v 37 0 3) + 1) ∨ 0 ≤ Int32.toInt (z 30 0 8))) := by
  have : ((v 36 0 3).toInt = 0 ∧ (v 36 0 4).toInt = 0) ∨ (0 < (v 36 0 3).toInt ∧ 0 < (v 36 0 4).toInt) := hI_v.2.1
  unfold g_X8_readsWord
  try rw [tc_3]
  refine ok_ite _ (fun c1 => ?_) (fun c1 => ?_)
  · skip
    have ic1 := i_le c1
    have : (0 : Int) ≤ (v 37 0 3).toInt ∧ (v 37 0 3).toInt ≤ (6 : Int) := hI_v.1 37 0 3
    have : (6 : Int32).toInt = 6 := (by decide)
    refine ok_kb2 (k_X8_takes v hI_v 0 3 ) (fun r3 v4 hr3 => ?_)
    have hr3 : IM v4 ∧ (Int32.toInt (v4 37 0 3) = Int32.toInt (v 37 0 3)) ∧ (Int32.toInt (v4 37 0 4) = Int32.toInt (v 37 0 4)) ∧ (Int32.toInt (v 30 0 8) < 0 ∨ 0 ≤ Int32.toInt (v4 30 0 8)) ∧ (¬ Int32.toInt 0 = 0 ∨ 0 ≤ Int32.toInt (v4 30 0 8)) ∧ (Int32.toInt r3 = 0 ∨ (Int32.toInt r3 = Int32.toInt (v 30 0 12) ∧ ¬ Int32.toInt 0 = 0)) := hr3
    obtain ⟨hI_v4, hr3⟩ := hr3
    have : ((v4 36 0 3).toInt = 0 ∧ (v4 36 0 4).toInt = 0) ∨ (0 < (v4 36 0 3).toInt ∧ 0 < (v4 36 0 4).toInt) := hI_v4.2.1
    have : (0 : Int) ≤ (v 37 0 3).toInt ∧ (v 37 0 3).toInt ≤ (6 : Int) := hI_v.1 37 0 3
    have : (0 : Int) ≤ (v 37 0 4).toInt ∧ (v 37 0 4).toInt ≤ (4 : Int) := hI_v.1 37 0 4
    have : (-1 : Int) ≤ (v 30 0 8).toInt ∧ (v 30 0 8).toInt ≤ (100 : Int) := hI_v.1 30 0 8
    have : (0 : Int32).toInt = 0 := (by decide)
    have : (3 : Int32).toInt = 3 := (by decide)
    refine ok_ite _ (fun c5 => ?_) (fun c5 => ?_)
    · skip
      have ic5 := i_le c5
      have : (0 : Int) ≤ (v4 37 0 3).toInt ∧ (v4 37 0 3).toInt ≤ (6 : Int) := hI_v4.1 37 0 3
      have : (6 : Int32).toInt = 6 := (by decide)
      refine ok_kb2 (k_X8_letterOf v4 hI_v4  ) (fun r7 v8 hr7 => ?_)
      have hr7 : IM v8 ∧ (Int32.toInt (v8 37 0 3) = Int32.toInt (v4 37 0 3)) ∧ (Int32.toInt (v8 37 0 4) = Int32.toInt (v4 37 0 4)) ∧ (Int32.toInt (v4 30 0 8) < 0 ∨ 0 ≤ Int32.toInt (v8 30 0 8)) := hr7
      obtain ⟨hI_v8, hr7⟩ := hr7
      have : ((v8 36 0 3).toInt = 0 ∧ (v8 36 0 4).toInt = 0) ∨ (0 < (v8 36 0 3).toInt ∧ 0 < (v8 36 0 4).toInt) := hI_v8.2.1
      have : (0 : Int) ≤ (v4 37 0 3).toInt ∧ (v4 37 0 3).toInt ≤ (6 : Int) := hI_v4.1 37 0 3
      have : (0 : Int) ≤ (v4 37 0 4).toInt ∧ (v4 37 0 4).toInt ≤ (4 : Int) := hI_v4.1 37 0 4
      have : (-1 : Int) ≤ (v4 30 0 8).toInt ∧ (v4 30 0 8).toInt ≤ (100 : Int) := hI_v4.1 30 0 8
      refine ok_kb2 (k_X8_letterOf v8 hI_v8  ) (fun r10 v11 hr10 => ?_)
      have hr10 : IM v11 ∧ (Int32.toInt (v11 37 0 3) = Int32.toInt (v8 37 0 3)) ∧ (Int32.toInt (v11 37 0 4) = Int32.toInt (v8 37 0 4)) ∧ (Int32.toInt (v8 30 0 8) < 0 ∨ 0 ≤ Int32.toInt (v11 30 0 8)) := hr10
      obtain ⟨hI_v11, hr10⟩ := hr10
      have : ((v11 36 0 3).toInt = 0 ∧ (v11 36 0 4).toInt = 0) ∨ (0 < (v11 36 0 3).toInt ∧ 0 < (v11 36 0 4).toInt) := hI_v11.2.1
      have : (0 : Int) ≤ (v8 37 0 3).toInt ∧ (v8 37 0 3).toInt ≤ (6 : Int) := hI_v8.1 37 0 3
      have : (0 : Int) ≤ (v8 37 0 4).toInt ∧ (v8 37 0 4).toInt ≤ (4 : Int) := hI_v8.1 37 0 4
      have : (-1 : Int) ≤ (v8 30 0 8).toInt ∧ (v8 30 0 8).toInt ≤ (100 : Int) := hI_v8.1 30 0 8
      refine ok_bind (k_X8_isWell v11 hI_v11  ) (fun r13 hr13 => ?_)
      have hr13 : (0 : Int) ≤ Int32.toInt r13 ∧ Int32.toInt r13 ≤ (1 : Int) ∧ ((Int32.toInt r13 = 0 ∧ 0 ≤ Int32.toInt (v11 30 0 8)) ∨ (Int32.toInt r13 = 1 ∧ Int32.toInt (v11 30 0 8) < 0)) := hr13
      have : (-1 : Int) ≤ (v11 30 0 8).toInt ∧ (v11 30 0 8).toInt ≤ (100 : Int) := hI_v11.1 30 0 8
      refine ok_ite _ (fun c15 => ?_) (fun c15 => ?_)
      · skip
        have ic15 := i_eq c15
        have : (0 : Int32).toInt = 0 := (by decide)
        refine ok_bind (k_X8_isTold v11 hI_v11 r7 r10 ((v11 30 0 12) - 97) ) (fun r17 hr17 => ?_)
        have hr17 : (0 : Int) ≤ Int32.toInt r17 ∧ Int32.toInt r17 ≤ (1 : Int) := hr17
        refine ok_ite _ (fun c19 => ?_) (fun c19 => ?_)
        · skip
          have ic19 := i_eq c19
          have : (0 : Int32).toInt = 0 := (by decide)
          refine ok_kb2 (k_X8_takes v11 hI_v11 1 2 ) (fun r21 v22 hr21 => ?_)
          have hr21 : IM v22 ∧ (Int32.toInt (v22 37 0 3) = Int32.toInt (v11 37 0 3)) ∧ (Int32.toInt (v22 37 0 4) = Int32.toInt (v11 37 0 4)) ∧ (Int32.toInt (v11 30 0 8) < 0 ∨ 0 ≤ Int32.toInt (v22 30 0 8)) ∧ (¬ Int32.toInt 1 = 0 ∨ 0 ≤ Int32.toInt (v22 30 0 8)) ∧ (Int32.toInt r21 = 0 ∨ (Int32.toInt r21 = Int32.toInt (v11 30 0 12) ∧ ¬ Int32.toInt 1 = 0)) := hr21
          obtain ⟨hI_v22, hr21⟩ := hr21
          have : ((v22 36 0 3).toInt = 0 ∧ (v22 36 0 4).toInt = 0) ∨ (0 < (v22 36 0 3).toInt ∧ 0 < (v22 36 0 4).toInt) := hI_v22.2.1
          have : (0 : Int) ≤ (v11 37 0 3).toInt ∧ (v11 37 0 3).toInt ≤ (6 : Int) := hI_v11.1 37 0 3
          have : (0 : Int) ≤ (v11 37 0 4).toInt ∧ (v11 37 0 4).toInt ≤ (4 : Int) := hI_v11.1 37 0 4
          have : (-1 : Int) ≤ (v11 30 0 8).toInt ∧ (v11 30 0 8).toInt ≤ (100 : Int) := hI_v11.1 30 0 8
          have : (1 : Int32).toInt = 1 := (by decide)
          have : (2 : Int32).toInt = 2 := (by decide)
          refine ok_ite _ (fun c23 => ?_) (fun c23 => ?_)
          · skip
            have ic23 := i_eq c23
            have : (0 : Int) ≤ (v22 30 0 11).toInt ∧ (v22 30 0 11).toInt ≤ (5 : Int) := hI_v22.1 30 0 11
            have : (4 : Int32).toInt = 4 := (by decide)
            refine ok_kb2 (k_X8_takes v22 hI_v22 1 1 ) (fun r25 v26 hr25 => ?_)
            have hr25 : IM v26 ∧ (Int32.toInt (v26 37 0 3) = Int32.toInt (v22 37 0 3)) ∧ (Int32.toInt (v26 37 0 4) = Int32.toInt (v22 37 0 4)) ∧ (Int32.toInt (v22 30 0 8) < 0 ∨ 0 ≤ Int32.toInt (v26 30 0 8)) ∧ (¬ Int32.toInt 1 = 0 ∨ 0 ≤ Int32.toInt (v26 30 0 8)) ∧ (Int32.toInt r25 = 0 ∨ (Int32.toInt r25 = Int32.toInt (v22 30 0 12) ∧ ¬ Int32.toInt 1 = 0)) := hr25
            obtain ⟨hI_v26, hr25⟩ := hr25
            have : ((v26 36 0 3).toInt = 0 ∧ (v26 36 0 4).toInt = 0) ∨ (0 < (v26 36 0 3).toInt ∧ 0 < (v26 36 0 4).toInt) := hI_v26.2.1
            have : (0 : Int) ≤ (v22 37 0 3).toInt ∧ (v22 37 0 3).toInt ≤ (6 : Int) := hI_v22.1 37 0 3
            have : (0 : Int) ≤ (v22 37 0 4).toInt ∧ (v22 37 0 4).toInt ≤ (4 : Int) := hI_v22.1 37 0 4
            have : (-1 : Int) ≤ (v22 30 0 8).toInt ∧ (v22 30 0 8).toInt ≤ (100 : Int) := hI_v22.1 30 0 8
            have : (1 : Int32).toInt = 1 := (by decide)
            refine ok_bind (k_X8_isWell v26 hI_v26  ) (fun r28 hr28 => ?_)
            have hr28 : (0 : Int) ≤ Int32.toInt r28 ∧ Int32.toInt r28 ≤ (1 : Int) ∧ ((Int32.toInt r28 = 0 ∧ 0 ≤ Int32.toInt (v26 30 0 8)) ∨ (Int32.toInt r28 = 1 ∧ Int32.toInt (v26 30 0 8) < 0)) := hr28
            have : (-1 : Int) ≤ (v26 30 0 8).toInt ∧ (v26 30 0 8).toInt ≤ (100 : Int) := hI_v26.1 30 0 8
            refine ok_ite _ (fun c30 => ?_) (fun c30 => ?_)
            · skip
              have ic30 := i_eq c30
              have : (0 : Int32).toInt = 0 := (by decide)
              refine ok_some ?_
              show IM v26 ∧ (Int32.toInt (v26 37 0 4) = Int32.toInt (v 37 0 4)) ∧ ((Int32.toInt (v 30 0 8) < 0 ∧ Int32.toInt (v26 37 0 3) = Int32.toInt (v 37 0 3) + 1) ∨ 0 ≤ Int32.toInt (v26 30 0 8))
              refine ⟨hI_v26, ?_⟩
              omega
            · skip
              have ic30 := i_ne c30
              have : (0 : Int32).toInt = 0 := (by decide)
              refine ok_grd _ ?_ ?_
              · skip
                have : (8 : Int32).toInt = 8 := (by decide)
                have : (3 : Int32).toInt = 3 := (by decide)
                have : (0 : Int32).toInt = 0 := (by decide)
                (first | have := sp_mulcx (3 : Int32) (0 : Int32) 0 (by decide) (by omega) | obtain ⟨k1, hk1⟩ := sp_mulc (3 : Int32) (0 : Int32) 0 (by decide))
                (first | have := sp_addx (8 : Int32) ((3 : Int32) * 0) (by omega) | obtain ⟨k2, hk2⟩ := sp_add (8 : Int32) ((3 : Int32) * 0))
                exact gr (by omega) (by omega)
              refine ok_let (fun v32 ev32 => ?_)
              have : (8 : Int32).toInt = 8 := (by decide)
              have : (3 : Int32).toInt = 3 := (by decide)
              have : (0 : Int32).toInt = 0 := (by decide)
              (first | have := sp_mulcx (3 : Int32) (0 : Int32) 0 (by decide) (by omega) | obtain ⟨k3, hk3⟩ := sp_mulc (3 : Int32) (0 : Int32) 0 (by decide))
              (first | have := sp_addx (8 : Int32) ((3 : Int32) * 0) (by omega) | obtain ⟨k4, hk4⟩ := sp_add (8 : Int32) ((3 : Int32) * 0))
              have hI_v32 : IM v32 := by
                rw [ev32]
                first | exact hI_v26.um7 (by omega) (by omega) | exact hI_v26.u07
              have := i_eq (show v32 30 0 8 = v26 30 0 8 by rw [ev32]; exact up3_t (by decide))
              have := i_eq (show v32 30 0 11 = v26 30 0 11 by rw [ev32]; exact up3_t (by decide))
              have := i_eq (show v32 30 0 12 = v26 30 0 12 by rw [ev32]; exact up3_t (by decide))
              (try have := i_eq (show v32 37 0 3 = v26 37 0 3 by rw [ev32]; exact up3_j (tcne (by omega) (by omega))))
              (try have := i_eq (show v32 37 0 4 = v26 37 0 4 by rw [ev32]; exact up3_j (tcne (by omega) (by omega))))
              have : ((v32 36 0 3).toInt = 0 ∧ (v32 36 0 4).toInt = 0) ∨ (0 < (v32 36 0 3).toInt ∧ 0 < (v32 36 0 4).toInt) := hI_v32.2.1
              refine ok_grd _ ?_ ?_
              · skip
                have : (8 : Int32).toInt = 8 := (by decide)
                have : (3 : Int32).toInt = 3 := (by decide)
                have : (0 : Int32).toInt = 0 := (by decide)
                (first | have := sp_mulcx (3 : Int32) (0 : Int32) 0 (by decide) (by omega) | obtain ⟨k5, hk5⟩ := sp_mulc (3 : Int32) (0 : Int32) 0 (by decide))
                (first | have := sp_addx (8 : Int32) ((3 : Int32) * 0) (by omega) | obtain ⟨k6, hk6⟩ := sp_add (8 : Int32) ((3 : Int32) * 0))
                have : (1 : Int32).toInt = 1 := (by decide)
                (first | have := sp_addx ((8 : Int32) + ((3 : Int32) * 0)) (1 : Int32) (by omega) | obtain ⟨k7, hk7⟩ := sp_add ((8 : Int32) + ((3 : Int32) * 0)) (1 : Int32))
                exact gr (by omega) (by omega)
              refine ok_let (fun v34 ev34 => ?_)
              have : (8 : Int32).toInt = 8 := (by decide)
              have : (3 : Int32).toInt = 3 := (by decide)
              have : (0 : Int32).toInt = 0 := (by decide)
              (first | have := sp_mulcx (3 : Int32) (0 : Int32) 0 (by decide) (by omega) | obtain ⟨k8, hk8⟩ := sp_mulc (3 : Int32) (0 : Int32) 0 (by decide))
              (first | have := sp_addx (8 : Int32) ((3 : Int32) * 0) (by omega) | obtain ⟨k9, hk9⟩ := sp_add (8 : Int32) ((3 : Int32) * 0))
              have : (1 : Int32).toInt = 1 := (by decide)
              (first | have := sp_addx ((8 : Int32) + ((3 : Int32) * 0)) (1 : Int32) (by omega) | obtain ⟨k10, hk10⟩ := sp_add ((8 : Int32) + ((3 : Int32) * 0)) (1 : Int32))
              have hI_v34 : IM v34 := by
                rw [ev34]
                first | exact hI_v32.um7 (by omega) (by omega) | exact hI_v32.u07
              have := i_eq (show v34 30 0 8 = v32 30 0 8 by rw [ev34]; exact up3_t (by decide))
              have := i_eq (show v34 30 0 11 = v32 30 0 11 by rw [ev34]; exact up3_t (by decide))
              have := i_eq (show v34 30 0 12 = v32 30 0 12 by rw [ev34]; exact up3_t (by decide))
              (try have := i_eq (show v34 37 0 3 = v32 37 0 3 by rw [ev34]; exact up3_j (tcne (by omega) (by omega))))
              (try have := i_eq (show v34 37 0 4 = v32 37 0 4 by rw [ev34]; exact up3_j (tcne (by omega) (by omega))))
              have : ((v34 36 0 3).toInt = 0 ∧ (v34 36 0 4).toInt = 0) ∨ (0 < (v34 36 0 3).toInt ∧ 0 < (v34 36 0 4).toInt) := hI_v34.2.1
              refine ok_grd _ ?_ ?_
              · skip
                have : (8 : Int32).toInt = 8 := (by decide)
                have : (3 : Int32).toInt = 3 := (by decide)
                have : (0 : Int32).toInt = 0 := (by decide)
                (first | have := sp_mulcx (3 : Int32) (0 : Int32) 0 (by decide) (by omega) | obtain ⟨k11, hk11⟩ := sp_mulc (3 : Int32) (0 : Int32) 0 (by decide))
                (first | have := sp_addx (8 : Int32) ((3 : Int32) * 0) (by omega) | obtain ⟨k12, hk12⟩ := sp_add (8 : Int32) ((3 : Int32) * 0))
                have : (2 : Int32).toInt = 2 := (by decide)
                (first | have := sp_addx ((8 : Int32) + ((3 : Int32) * 0)) (2 : Int32) (by omega) | obtain ⟨k13, hk13⟩ := sp_add ((8 : Int32) + ((3 : Int32) * 0)) (2 : Int32))
                exact gr (by omega) (by omega)
              refine ok_let (fun v36 ev36 => ?_)
              have : (8 : Int32).toInt = 8 := (by decide)
              have : (3 : Int32).toInt = 3 := (by decide)
              have : (0 : Int32).toInt = 0 := (by decide)
              (first | have := sp_mulcx (3 : Int32) (0 : Int32) 0 (by decide) (by omega) | obtain ⟨k14, hk14⟩ := sp_mulc (3 : Int32) (0 : Int32) 0 (by decide))
              (first | have := sp_addx (8 : Int32) ((3 : Int32) * 0) (by omega) | obtain ⟨k15, hk15⟩ := sp_add (8 : Int32) ((3 : Int32) * 0))
              have : (2 : Int32).toInt = 2 := (by decide)
              (first | have := sp_addx ((8 : Int32) + ((3 : Int32) * 0)) (2 : Int32) (by omega) | obtain ⟨k16, hk16⟩ := sp_add ((8 : Int32) + ((3 : Int32) * 0)) (2 : Int32))
              have : (97 : Int32).toInt = 97 := (by decide)
              have := i_bd r21
              (first | have := sp_subx r21 (97 : Int32) (by omega) | obtain ⟨k17, hk17⟩ := sp_sub r21 (97 : Int32))
              have hI_v36 : IM v36 := by
                rw [ev36]
                first | exact hI_v34.um7 (by omega) (by omega) | exact hI_v34.u07
              have := i_eq (show v36 30 0 8 = v34 30 0 8 by rw [ev36]; exact up3_t (by decide))
              have := i_eq (show v36 30 0 11 = v34 30 0 11 by rw [ev36]; exact up3_t (by decide))
              have := i_eq (show v36 30 0 12 = v34 30 0 12 by rw [ev36]; exact up3_t (by decide))
              (try have := i_eq (show v36 37 0 3 = v34 37 0 3 by rw [ev36]; exact up3_j (tcne (by omega) (by omega))))
              (try have := i_eq (show v36 37 0 4 = v34 37 0 4 by rw [ev36]; exact up3_j (tcne (by omega) (by omega))))
              have : ((v36 36 0 3).toInt = 0 ∧ (v36 36 0 4).toInt = 0) ∨ (0 < (v36 36 0 3).toInt ∧ 0 < (v36 36 0 4).toInt) := hI_v36.2.1
              refine ok_let (fun v37 ev37 => ?_)
              have hI_v37 : IM v37 := by
                rw [ev37]
                refine hI_v36.upo (by decide) ?_
                show (0 : Int) ≤ Int32.toInt ((v36 37 0 3) + 1) ∧ Int32.toInt ((v36 37 0 3) + 1) ≤ (6 : Int)
                have : (0 : Int) ≤ (v36 37 0 3).toInt ∧ (v36 37 0 3).toInt ≤ (6 : Int) := hI_v36.1 37 0 3
                have : (1 : Int32).toInt = 1 := (by decide)
                have := i_bd (v36 37 0 3)
                (first | have := sp_addx (v36 37 0 3) (1 : Int32) (by omega) | obtain ⟨k18, hk18⟩ := sp_add (v36 37 0 3) (1 : Int32))
                omega
              have := i_eq (show v37 30 0 8 = v36 30 0 8 by rw [ev37]; exact up3_t (by decide))
              have := i_eq (show v37 30 0 11 = v36 30 0 11 by rw [ev37]; exact up3_t (by decide))
              have := i_eq (show v37 30 0 12 = v36 30 0 12 by rw [ev37]; exact up3_t (by decide))
              have := i_eq (show v37 37 0 3 = ((v36 37 0 3) + 1) by rw [ev37]; exact up3_s)
              have : (0 : Int) ≤ (v36 37 0 3).toInt ∧ (v36 37 0 3).toInt ≤ (6 : Int) := hI_v36.1 37 0 3
              have : (1 : Int32).toInt = 1 := (by decide)
              have := i_bd (v36 37 0 3)
              (first | have := sp_addx (v36 37 0 3) (1 : Int32) (by omega) | obtain ⟨k19, hk19⟩ := sp_add (v36 37 0 3) (1 : Int32))
              have := i_eq (show v37 37 0 4 = v36 37 0 4 by rw [ev37]; exact up3_j (by decide))
              have : ((v37 36 0 3).toInt = 0 ∧ (v37 36 0 4).toInt = 0) ∨ (0 < (v37 36 0 3).toInt ∧ 0 < (v37 36 0 4).toInt) := hI_v37.2.1
              refine ok_some ?_
              show IM v37 ∧ (Int32.toInt (v37 37 0 4) = Int32.toInt (v 37 0 4)) ∧ ((Int32.toInt (v 30 0 8) < 0 ∧ Int32.toInt (v37 37 0 3) = Int32.toInt (v 37 0 3) + 1) ∨ 0 ≤ Int32.toInt (v37 30 0 8))
              refine ⟨hI_v37, ?_⟩
              omega
          · skip
            have ic23 := i_ne c23
            have : (0 : Int) ≤ (v22 30 0 11).toInt ∧ (v22 30 0 11).toInt ≤ (5 : Int) := hI_v22.1 30 0 11
            have : (4 : Int32).toInt = 4 := (by decide)
            refine ok_kb2 (k_X8_takes v22 hI_v22 0 1 ) (fun r39 v40 hr39 => ?_)
            have hr39 : IM v40 ∧ (Int32.toInt (v40 37 0 3) = Int32.toInt (v22 37 0 3)) ∧ (Int32.toInt (v40 37 0 4) = Int32.toInt (v22 37 0 4)) ∧ (Int32.toInt (v22 30 0 8) < 0 ∨ 0 ≤ Int32.toInt (v40 30 0 8)) ∧ (¬ Int32.toInt 0 = 0 ∨ 0 ≤ Int32.toInt (v40 30 0 8)) ∧ (Int32.toInt r39 = 0 ∨ (Int32.toInt r39 = Int32.toInt (v22 30 0 12) ∧ ¬ Int32.toInt 0 = 0)) := hr39
            obtain ⟨hI_v40, hr39⟩ := hr39
            have : ((v40 36 0 3).toInt = 0 ∧ (v40 36 0 4).toInt = 0) ∨ (0 < (v40 36 0 3).toInt ∧ 0 < (v40 36 0 4).toInt) := hI_v40.2.1
            have : (0 : Int) ≤ (v22 37 0 3).toInt ∧ (v22 37 0 3).toInt ≤ (6 : Int) := hI_v22.1 37 0 3
            have : (0 : Int) ≤ (v22 37 0 4).toInt ∧ (v22 37 0 4).toInt ≤ (4 : Int) := hI_v22.1 37 0 4
            have : (-1 : Int) ≤ (v22 30 0 8).toInt ∧ (v22 30 0 8).toInt ≤ (100 : Int) := hI_v22.1 30 0 8
            have : (0 : Int32).toInt = 0 := (by decide)
            have : (1 : Int32).toInt = 1 := (by decide)
            refine ok_bind (k_X8_isWell v40 hI_v40  ) (fun r42 hr42 => ?_)
            have hr42 : (0 : Int) ≤ Int32.toInt r42 ∧ Int32.toInt r42 ≤ (1 : Int) ∧ ((Int32.toInt r42 = 0 ∧ 0 ≤ Int32.toInt (v40 30 0 8)) ∨ (Int32.toInt r42 = 1 ∧ Int32.toInt (v40 30 0 8) < 0)) := hr42
            have : (-1 : Int) ≤ (v40 30 0 8).toInt ∧ (v40 30 0 8).toInt ≤ (100 : Int) := hI_v40.1 30 0 8
            refine ok_ite _ (fun c44 => ?_) (fun c44 => ?_)
            · skip
              have ic44 := i_eq c44
              have : (0 : Int32).toInt = 0 := (by decide)
              refine ok_some ?_
              show IM v40 ∧ (Int32.toInt (v40 37 0 4) = Int32.toInt (v 37 0 4)) ∧ ((Int32.toInt (v 30 0 8) < 0 ∧ Int32.toInt (v40 37 0 3) = Int32.toInt (v 37 0 3) + 1) ∨ 0 ≤ Int32.toInt (v40 30 0 8))
              refine ⟨hI_v40, ?_⟩
              omega
            · skip
              have ic44 := i_ne c44
              have : (0 : Int32).toInt = 0 := (by decide)
              refine ok_grd _ ?_ ?_
              · skip
                have : (8 : Int32).toInt = 8 := (by decide)
                have : (3 : Int32).toInt = 3 := (by decide)
                have : (0 : Int32).toInt = 0 := (by decide)
                (first | have := sp_mulcx (3 : Int32) (0 : Int32) 0 (by decide) (by omega) | obtain ⟨k20, hk20⟩ := sp_mulc (3 : Int32) (0 : Int32) 0 (by decide))
                (first | have := sp_addx (8 : Int32) ((3 : Int32) * 0) (by omega) | obtain ⟨k21, hk21⟩ := sp_add (8 : Int32) ((3 : Int32) * 0))
                exact gr (by omega) (by omega)
              refine ok_let (fun v46 ev46 => ?_)
              have : (8 : Int32).toInt = 8 := (by decide)
              have : (3 : Int32).toInt = 3 := (by decide)
              have : (0 : Int32).toInt = 0 := (by decide)
              (first | have := sp_mulcx (3 : Int32) (0 : Int32) 0 (by decide) (by omega) | obtain ⟨k22, hk22⟩ := sp_mulc (3 : Int32) (0 : Int32) 0 (by decide))
              (first | have := sp_addx (8 : Int32) ((3 : Int32) * 0) (by omega) | obtain ⟨k23, hk23⟩ := sp_add (8 : Int32) ((3 : Int32) * 0))
              have hI_v46 : IM v46 := by
                rw [ev46]
                first | exact hI_v40.um7 (by omega) (by omega) | exact hI_v40.u07
              have := i_eq (show v46 30 0 8 = v40 30 0 8 by rw [ev46]; exact up3_t (by decide))
              have := i_eq (show v46 30 0 11 = v40 30 0 11 by rw [ev46]; exact up3_t (by decide))
              have := i_eq (show v46 30 0 12 = v40 30 0 12 by rw [ev46]; exact up3_t (by decide))
              (try have := i_eq (show v46 37 0 3 = v40 37 0 3 by rw [ev46]; exact up3_j (tcne (by omega) (by omega))))
              (try have := i_eq (show v46 37 0 4 = v40 37 0 4 by rw [ev46]; exact up3_j (tcne (by omega) (by omega))))
              have : ((v46 36 0 3).toInt = 0 ∧ (v46 36 0 4).toInt = 0) ∨ (0 < (v46 36 0 3).toInt ∧ 0 < (v46 36 0 4).toInt) := hI_v46.2.1
              refine ok_grd _ ?_ ?_
              · skip
                have : (8 : Int32).toInt = 8 := (by decide)
                have : (3 : Int32).toInt = 3 := (by decide)
                have : (0 : Int32).toInt = 0 := (by decide)
                (first | have := sp_mulcx (3 : Int32) (0 : Int32) 0 (by decide) (by omega) | obtain ⟨k24, hk24⟩ := sp_mulc (3 : Int32) (0 : Int32) 0 (by decide))
                (first | have := sp_addx (8 : Int32) ((3 : Int32) * 0) (by omega) | obtain ⟨k25, hk25⟩ := sp_add (8 : Int32) ((3 : Int32) * 0))
                have : (1 : Int32).toInt = 1 := (by decide)
                (first | have := sp_addx ((8 : Int32) + ((3 : Int32) * 0)) (1 : Int32) (by omega) | obtain ⟨k26, hk26⟩ := sp_add ((8 : Int32) + ((3 : Int32) * 0)) (1 : Int32))
                exact gr (by omega) (by omega)
              refine ok_let (fun v48 ev48 => ?_)
              have : (8 : Int32).toInt = 8 := (by decide)
              have : (3 : Int32).toInt = 3 := (by decide)
              have : (0 : Int32).toInt = 0 := (by decide)
              (first | have := sp_mulcx (3 : Int32) (0 : Int32) 0 (by decide) (by omega) | obtain ⟨k27, hk27⟩ := sp_mulc (3 : Int32) (0 : Int32) 0 (by decide))
              (first | have := sp_addx (8 : Int32) ((3 : Int32) * 0) (by omega) | obtain ⟨k28, hk28⟩ := sp_add (8 : Int32) ((3 : Int32) * 0))
              have : (1 : Int32).toInt = 1 := (by decide)
              (first | have := sp_addx ((8 : Int32) + ((3 : Int32) * 0)) (1 : Int32) (by omega) | obtain ⟨k29, hk29⟩ := sp_add ((8 : Int32) + ((3 : Int32) * 0)) (1 : Int32))
              have hI_v48 : IM v48 := by
                rw [ev48]
                first | exact hI_v46.um7 (by omega) (by omega) | exact hI_v46.u07
              have := i_eq (show v48 30 0 8 = v46 30 0 8 by rw [ev48]; exact up3_t (by decide))
              have := i_eq (show v48 30 0 11 = v46 30 0 11 by rw [ev48]; exact up3_t (by decide))
              have := i_eq (show v48 30 0 12 = v46 30 0 12 by rw [ev48]; exact up3_t (by decide))
              (try have := i_eq (show v48 37 0 3 = v46 37 0 3 by rw [ev48]; exact up3_j (tcne (by omega) (by omega))))
              (try have := i_eq (show v48 37 0 4 = v46 37 0 4 by rw [ev48]; exact up3_j (tcne (by omega) (by omega))))
              have : ((v48 36 0 3).toInt = 0 ∧ (v48 36 0 4).toInt = 0) ∨ (0 < (v48 36 0 3).toInt ∧ 0 < (v48 36 0 4).toInt) := hI_v48.2.1
              refine ok_grd _ ?_ ?_
              · skip
                have : (8 : Int32).toInt = 8 := (by decide)
                have : (3 : Int32).toInt = 3 := (by decide)
                have : (0 : Int32).toInt = 0 := (by decide)
                (first | have := sp_mulcx (3 : Int32) (0 : Int32) 0 (by decide) (by omega) | obtain ⟨k30, hk30⟩ := sp_mulc (3 : Int32) (0 : Int32) 0 (by decide))
                (first | have := sp_addx (8 : Int32) ((3 : Int32) * 0) (by omega) | obtain ⟨k31, hk31⟩ := sp_add (8 : Int32) ((3 : Int32) * 0))
                have : (2 : Int32).toInt = 2 := (by decide)
                (first | have := sp_addx ((8 : Int32) + ((3 : Int32) * 0)) (2 : Int32) (by omega) | obtain ⟨k32, hk32⟩ := sp_add ((8 : Int32) + ((3 : Int32) * 0)) (2 : Int32))
                exact gr (by omega) (by omega)
              refine ok_let (fun v50 ev50 => ?_)
              have : (8 : Int32).toInt = 8 := (by decide)
              have : (3 : Int32).toInt = 3 := (by decide)
              have : (0 : Int32).toInt = 0 := (by decide)
              (first | have := sp_mulcx (3 : Int32) (0 : Int32) 0 (by decide) (by omega) | obtain ⟨k33, hk33⟩ := sp_mulc (3 : Int32) (0 : Int32) 0 (by decide))
              (first | have := sp_addx (8 : Int32) ((3 : Int32) * 0) (by omega) | obtain ⟨k34, hk34⟩ := sp_add (8 : Int32) ((3 : Int32) * 0))
              have : (2 : Int32).toInt = 2 := (by decide)
              (first | have := sp_addx ((8 : Int32) + ((3 : Int32) * 0)) (2 : Int32) (by omega) | obtain ⟨k35, hk35⟩ := sp_add ((8 : Int32) + ((3 : Int32) * 0)) (2 : Int32))
              have : (97 : Int32).toInt = 97 := (by decide)
              have := i_bd r21
              (first | have := sp_subx r21 (97 : Int32) (by omega) | obtain ⟨k36, hk36⟩ := sp_sub r21 (97 : Int32))
              have hI_v50 : IM v50 := by
                rw [ev50]
                first | exact hI_v48.um7 (by omega) (by omega) | exact hI_v48.u07
              have := i_eq (show v50 30 0 8 = v48 30 0 8 by rw [ev50]; exact up3_t (by decide))
              have := i_eq (show v50 30 0 11 = v48 30 0 11 by rw [ev50]; exact up3_t (by decide))
              have := i_eq (show v50 30 0 12 = v48 30 0 12 by rw [ev50]; exact up3_t (by decide))
              (try have := i_eq (show v50 37 0 3 = v48 37 0 3 by rw [ev50]; exact up3_j (tcne (by omega) (by omega))))
              (try have := i_eq (show v50 37 0 4 = v48 37 0 4 by rw [ev50]; exact up3_j (tcne (by omega) (by omega))))
              have : ((v50 36 0 3).toInt = 0 ∧ (v50 36 0 4).toInt = 0) ∨ (0 < (v50 36 0 3).toInt ∧ 0 < (v50 36 0 4).toInt) := hI_v50.2.1
              refine ok_let (fun v51 ev51 => ?_)
              have hI_v51 : IM v51 := by
                rw [ev51]
                refine hI_v50.upo (by decide) ?_
                show (0 : Int) ≤ Int32.toInt ((v50 37 0 3) + 1) ∧ Int32.toInt ((v50 37 0 3) + 1) ≤ (6 : Int)
                have : (0 : Int) ≤ (v50 37 0 3).toInt ∧ (v50 37 0 3).toInt ≤ (6 : Int) := hI_v50.1 37 0 3
                have : (1 : Int32).toInt = 1 := (by decide)
                have := i_bd (v50 37 0 3)
                (first | have := sp_addx (v50 37 0 3) (1 : Int32) (by omega) | obtain ⟨k37, hk37⟩ := sp_add (v50 37 0 3) (1 : Int32))
                omega
              have := i_eq (show v51 30 0 8 = v50 30 0 8 by rw [ev51]; exact up3_t (by decide))
              have := i_eq (show v51 30 0 11 = v50 30 0 11 by rw [ev51]; exact up3_t (by decide))
              have := i_eq (show v51 30 0 12 = v50 30 0 12 by rw [ev51]; exact up3_t (by decide))
              have := i_eq (show v51 37 0 3 = ((v50 37 0 3) + 1) by rw [ev51]; exact up3_s)
              have : (0 : Int) ≤ (v50 37 0 3).toInt ∧ (v50 37 0 3).toInt ≤ (6 : Int) := hI_v50.1 37 0 3
              have : (1 : Int32).toInt = 1 := (by decide)
              have := i_bd (v50 37 0 3)
              (first | have := sp_addx (v50 37 0 3) (1 : Int32) (by omega) | obtain ⟨k38, hk38⟩ := sp_add (v50 37 0 3) (1 : Int32))
              have := i_eq (show v51 37 0 4 = v50 37 0 4 by rw [ev51]; exact up3_j (by decide))
              have : ((v51 36 0 3).toInt = 0 ∧ (v51 36 0 4).toInt = 0) ∨ (0 < (v51 36 0 3).toInt ∧ 0 < (v51 36 0 4).toInt) := hI_v51.2.1
              refine ok_some ?_
              show IM v51 ∧ (Int32.toInt (v51 37 0 4) = Int32.toInt (v 37 0 4)) ∧ ((Int32.toInt (v 30 0 8) < 0 ∧ Int32.toInt (v51 37 0 3) = Int32.toInt (v 37 0 3) + 1) ∨ 0 ≤ Int32.toInt (v51 30 0 8))
              refine ⟨hI_v51, ?_⟩
              omega
        · skip
          have ic19 := i_ne c19
          have : (0 : Int32).toInt = 0 := (by decide)
          refine ok_kb2 (k_X8_takes v11 hI_v11 0 2 ) (fun r53 v54 hr53 => ?_)
          have hr53 : IM v54 ∧ (Int32.toInt (v54 37 0 3) = Int32.toInt (v11 37 0 3)) ∧ (Int32.toInt (v54 37 0 4) = Int32.toInt (v11 37 0 4)) ∧ (Int32.toInt (v11 30 0 8) < 0 ∨ 0 ≤ Int32.toInt (v54 30 0 8)) ∧ (¬ Int32.toInt 0 = 0 ∨ 0 ≤ Int32.toInt (v54 30 0 8)) ∧ (Int32.toInt r53 = 0 ∨ (Int32.toInt r53 = Int32.toInt (v11 30 0 12) ∧ ¬ Int32.toInt 0 = 0)) := hr53
          obtain ⟨hI_v54, hr53⟩ := hr53
          have : ((v54 36 0 3).toInt = 0 ∧ (v54 36 0 4).toInt = 0) ∨ (0 < (v54 36 0 3).toInt ∧ 0 < (v54 36 0 4).toInt) := hI_v54.2.1
          have : (0 : Int) ≤ (v11 37 0 3).toInt ∧ (v11 37 0 3).toInt ≤ (6 : Int) := hI_v11.1 37 0 3
          have : (0 : Int) ≤ (v11 37 0 4).toInt ∧ (v11 37 0 4).toInt ≤ (4 : Int) := hI_v11.1 37 0 4
          have : (-1 : Int) ≤ (v11 30 0 8).toInt ∧ (v11 30 0 8).toInt ≤ (100 : Int) := hI_v11.1 30 0 8
          have : (0 : Int32).toInt = 0 := (by decide)
          have : (2 : Int32).toInt = 2 := (by decide)
          refine ok_ite _ (fun c55 => ?_) (fun c55 => ?_)
          · skip
            have ic55 := i_eq c55
            have : (0 : Int) ≤ (v54 30 0 11).toInt ∧ (v54 30 0 11).toInt ≤ (5 : Int) := hI_v54.1 30 0 11
            have : (4 : Int32).toInt = 4 := (by decide)
            refine ok_kb2 (k_X8_takes v54 hI_v54 1 1 ) (fun r57 v58 hr57 => ?_)
            have hr57 : IM v58 ∧ (Int32.toInt (v58 37 0 3) = Int32.toInt (v54 37 0 3)) ∧ (Int32.toInt (v58 37 0 4) = Int32.toInt (v54 37 0 4)) ∧ (Int32.toInt (v54 30 0 8) < 0 ∨ 0 ≤ Int32.toInt (v58 30 0 8)) ∧ (¬ Int32.toInt 1 = 0 ∨ 0 ≤ Int32.toInt (v58 30 0 8)) ∧ (Int32.toInt r57 = 0 ∨ (Int32.toInt r57 = Int32.toInt (v54 30 0 12) ∧ ¬ Int32.toInt 1 = 0)) := hr57
            obtain ⟨hI_v58, hr57⟩ := hr57
            have : ((v58 36 0 3).toInt = 0 ∧ (v58 36 0 4).toInt = 0) ∨ (0 < (v58 36 0 3).toInt ∧ 0 < (v58 36 0 4).toInt) := hI_v58.2.1
            have : (0 : Int) ≤ (v54 37 0 3).toInt ∧ (v54 37 0 3).toInt ≤ (6 : Int) := hI_v54.1 37 0 3
            have : (0 : Int) ≤ (v54 37 0 4).toInt ∧ (v54 37 0 4).toInt ≤ (4 : Int) := hI_v54.1 37 0 4
            have : (-1 : Int) ≤ (v54 30 0 8).toInt ∧ (v54 30 0 8).toInt ≤ (100 : Int) := hI_v54.1 30 0 8
            have : (1 : Int32).toInt = 1 := (by decide)
            refine ok_bind (k_X8_isWell v58 hI_v58  ) (fun r60 hr60 => ?_)
            have hr60 : (0 : Int) ≤ Int32.toInt r60 ∧ Int32.toInt r60 ≤ (1 : Int) ∧ ((Int32.toInt r60 = 0 ∧ 0 ≤ Int32.toInt (v58 30 0 8)) ∨ (Int32.toInt r60 = 1 ∧ Int32.toInt (v58 30 0 8) < 0)) := hr60
            have : (-1 : Int) ≤ (v58 30 0 8).toInt ∧ (v58 30 0 8).toInt ≤ (100 : Int) := hI_v58.1 30 0 8
            refine ok_ite _ (fun c62 => ?_) (fun c62 => ?_)
            · skip
              have ic62 := i_eq c62
              have : (0 : Int32).toInt = 0 := (by decide)
              refine ok_some ?_
              show IM v58 ∧ (Int32.toInt (v58 37 0 4) = Int32.toInt (v 37 0 4)) ∧ ((Int32.toInt (v 30 0 8) < 0 ∧ Int32.toInt (v58 37 0 3) = Int32.toInt (v 37 0 3) + 1) ∨ 0 ≤ Int32.toInt (v58 30 0 8))
              refine ⟨hI_v58, ?_⟩
              omega
            · skip
              have ic62 := i_ne c62
              have : (0 : Int32).toInt = 0 := (by decide)
              refine ok_grd _ ?_ ?_
              · skip
                have : (8 : Int32).toInt = 8 := (by decide)
                have : (3 : Int32).toInt = 3 := (by decide)
                have : (0 : Int32).toInt = 0 := (by decide)
                (first | have := sp_mulcx (3 : Int32) (0 : Int32) 0 (by decide) (by omega) | obtain ⟨k39, hk39⟩ := sp_mulc (3 : Int32) (0 : Int32) 0 (by decide))
                (first | have := sp_addx (8 : Int32) ((3 : Int32) * 0) (by omega) | obtain ⟨k40, hk40⟩ := sp_add (8 : Int32) ((3 : Int32) * 0))
                exact gr (by omega) (by omega)
              refine ok_let (fun v64 ev64 => ?_)
              have : (8 : Int32).toInt = 8 := (by decide)
              have : (3 : Int32).toInt = 3 := (by decide)
              have : (0 : Int32).toInt = 0 := (by decide)
              (first | have := sp_mulcx (3 : Int32) (0 : Int32) 0 (by decide) (by omega) | obtain ⟨k41, hk41⟩ := sp_mulc (3 : Int32) (0 : Int32) 0 (by decide))
              (first | have := sp_addx (8 : Int32) ((3 : Int32) * 0) (by omega) | obtain ⟨k42, hk42⟩ := sp_add (8 : Int32) ((3 : Int32) * 0))
              have hI_v64 : IM v64 := by
                rw [ev64]
                first | exact hI_v58.um7 (by omega) (by omega) | exact hI_v58.u07
              have := i_eq (show v64 30 0 8 = v58 30 0 8 by rw [ev64]; exact up3_t (by decide))
              have := i_eq (show v64 30 0 11 = v58 30 0 11 by rw [ev64]; exact up3_t (by decide))
              have := i_eq (show v64 30 0 12 = v58 30 0 12 by rw [ev64]; exact up3_t (by decide))
              (try have := i_eq (show v64 37 0 3 = v58 37 0 3 by rw [ev64]; exact up3_j (tcne (by omega) (by omega))))
              (try have := i_eq (show v64 37 0 4 = v58 37 0 4 by rw [ev64]; exact up3_j (tcne (by omega) (by omega))))
              have : ((v64 36 0 3).toInt = 0 ∧ (v64 36 0 4).toInt = 0) ∨ (0 < (v64 36 0 3).toInt ∧ 0 < (v64 36 0 4).toInt) := hI_v64.2.1
              refine ok_grd _ ?_ ?_
              · skip
                have : (8 : Int32).toInt = 8 := (by decide)
                have : (3 : Int32).toInt = 3 := (by decide)
                have : (0 : Int32).toInt = 0 := (by decide)
                (first | have := sp_mulcx (3 : Int32) (0 : Int32) 0 (by decide) (by omega) | obtain ⟨k43, hk43⟩ := sp_mulc (3 : Int32) (0 : Int32) 0 (by decide))
                (first | have := sp_addx (8 : Int32) ((3 : Int32) * 0) (by omega) | obtain ⟨k44, hk44⟩ := sp_add (8 : Int32) ((3 : Int32) * 0))
                have : (1 : Int32).toInt = 1 := (by decide)
                (first | have := sp_addx ((8 : Int32) + ((3 : Int32) * 0)) (1 : Int32) (by omega) | obtain ⟨k45, hk45⟩ := sp_add ((8 : Int32) + ((3 : Int32) * 0)) (1 : Int32))
                exact gr (by omega) (by omega)
              refine ok_let (fun v66 ev66 => ?_)
              have : (8 : Int32).toInt = 8 := (by decide)
              have : (3 : Int32).toInt = 3 := (by decide)
              have : (0 : Int32).toInt = 0 := (by decide)
              (first | have := sp_mulcx (3 : Int32) (0 : Int32) 0 (by decide) (by omega) | obtain ⟨k46, hk46⟩ := sp_mulc (3 : Int32) (0 : Int32) 0 (by decide))
              (first | have := sp_addx (8 : Int32) ((3 : Int32) * 0) (by omega) | obtain ⟨k47, hk47⟩ := sp_add (8 : Int32) ((3 : Int32) * 0))
              have : (1 : Int32).toInt = 1 := (by decide)
              (first | have := sp_addx ((8 : Int32) + ((3 : Int32) * 0)) (1 : Int32) (by omega) | obtain ⟨k48, hk48⟩ := sp_add ((8 : Int32) + ((3 : Int32) * 0)) (1 : Int32))
              have hI_v66 : IM v66 := by
                rw [ev66]
                first | exact hI_v64.um7 (by omega) (by omega) | exact hI_v64.u07
              have := i_eq (show v66 30 0 8 = v64 30 0 8 by rw [ev66]; exact up3_t (by decide))
              have := i_eq (show v66 30 0 11 = v64 30 0 11 by rw [ev66]; exact up3_t (by decide))
              have := i_eq (show v66 30 0 12 = v64 30 0 12 by rw [ev66]; exact up3_t (by decide))
              (try have := i_eq (show v66 37 0 3 = v64 37 0 3 by rw [ev66]; exact up3_j (tcne (by omega) (by omega))))
              (try have := i_eq (show v66 37 0 4 = v64 37 0 4 by rw [ev66]; exact up3_j (tcne (by omega) (by omega))))
              have : ((v66 36 0 3).toInt = 0 ∧ (v66 36 0 4).toInt = 0) ∨ (0 < (v66 36 0 3).toInt ∧ 0 < (v66 36 0 4).toInt) := hI_v66.2.1
              refine ok_grd _ ?_ ?_
              · skip
                have : (8 : Int32).toInt = 8 := (by decide)
                have : (3 : Int32).toInt = 3 := (by decide)
                have : (0 : Int32).toInt = 0 := (by decide)
                (first | have := sp_mulcx (3 : Int32) (0 : Int32) 0 (by decide) (by omega) | obtain ⟨k49, hk49⟩ := sp_mulc (3 : Int32) (0 : Int32) 0 (by decide))
                (first | have := sp_addx (8 : Int32) ((3 : Int32) * 0) (by omega) | obtain ⟨k50, hk50⟩ := sp_add (8 : Int32) ((3 : Int32) * 0))
                have : (2 : Int32).toInt = 2 := (by decide)
                (first | have := sp_addx ((8 : Int32) + ((3 : Int32) * 0)) (2 : Int32) (by omega) | obtain ⟨k51, hk51⟩ := sp_add ((8 : Int32) + ((3 : Int32) * 0)) (2 : Int32))
                exact gr (by omega) (by omega)
              refine ok_let (fun v68 ev68 => ?_)
              have : (8 : Int32).toInt = 8 := (by decide)
              have : (3 : Int32).toInt = 3 := (by decide)
              have : (0 : Int32).toInt = 0 := (by decide)
              (first | have := sp_mulcx (3 : Int32) (0 : Int32) 0 (by decide) (by omega) | obtain ⟨k52, hk52⟩ := sp_mulc (3 : Int32) (0 : Int32) 0 (by decide))
              (first | have := sp_addx (8 : Int32) ((3 : Int32) * 0) (by omega) | obtain ⟨k53, hk53⟩ := sp_add (8 : Int32) ((3 : Int32) * 0))
              have : (2 : Int32).toInt = 2 := (by decide)
              (first | have := sp_addx ((8 : Int32) + ((3 : Int32) * 0)) (2 : Int32) (by omega) | obtain ⟨k54, hk54⟩ := sp_add ((8 : Int32) + ((3 : Int32) * 0)) (2 : Int32))
              have : (97 : Int32).toInt = 97 := (by decide)
              have := i_bd r53
              (first | have := sp_subx r53 (97 : Int32) (by omega) | obtain ⟨k55, hk55⟩ := sp_sub r53 (97 : Int32))
              have hI_v68 : IM v68 := by
                rw [ev68]
                first | exact hI_v66.um7 (by omega) (by omega) | exact hI_v66.u07
              have := i_eq (show v68 30 0 8 = v66 30 0 8 by rw [ev68]; exact up3_t (by decide))
              have := i_eq (show v68 30 0 11 = v66 30 0 11 by rw [ev68]; exact up3_t (by decide))
              have := i_eq (show v68 30 0 12 = v66 30 0 12 by rw [ev68]; exact up3_t (by decide))
              (try have := i_eq (show v68 37 0 3 = v66 37 0 3 by rw [ev68]; exact up3_j (tcne (by omega) (by omega))))
              (try have := i_eq (show v68 37 0 4 = v66 37 0 4 by rw [ev68]; exact up3_j (tcne (by omega) (by omega))))
              have : ((v68 36 0 3).toInt = 0 ∧ (v68 36 0 4).toInt = 0) ∨ (0 < (v68 36 0 3).toInt ∧ 0 < (v68 36 0 4).toInt) := hI_v68.2.1
              refine ok_let (fun v69 ev69 => ?_)
              have hI_v69 : IM v69 := by
                rw [ev69]
                refine hI_v68.upo (by decide) ?_
                show (0 : Int) ≤ Int32.toInt ((v68 37 0 3) + 1) ∧ Int32.toInt ((v68 37 0 3) + 1) ≤ (6 : Int)
                have : (0 : Int) ≤ (v68 37 0 3).toInt ∧ (v68 37 0 3).toInt ≤ (6 : Int) := hI_v68.1 37 0 3
                have : (1 : Int32).toInt = 1 := (by decide)
                have := i_bd (v68 37 0 3)
                (first | have := sp_addx (v68 37 0 3) (1 : Int32) (by omega) | obtain ⟨k56, hk56⟩ := sp_add (v68 37 0 3) (1 : Int32))
                omega
              have := i_eq (show v69 30 0 8 = v68 30 0 8 by rw [ev69]; exact up3_t (by decide))
              have := i_eq (show v69 30 0 11 = v68 30 0 11 by rw [ev69]; exact up3_t (by decide))
              have := i_eq (show v69 30 0 12 = v68 30 0 12 by rw [ev69]; exact up3_t (by decide))
              have := i_eq (show v69 37 0 3 = ((v68 37 0 3) + 1) by rw [ev69]; exact up3_s)
              have : (0 : Int) ≤ (v68 37 0 3).toInt ∧ (v68 37 0 3).toInt ≤ (6 : Int) := hI_v68.1 37 0 3
              have : (1 : Int32).toInt = 1 := (by decide)
              have := i_bd (v68 37 0 3)
              (first | have := sp_addx (v68 37 0 3) (1 : Int32) (by omega) | obtain ⟨k57, hk57⟩ := sp_add (v68 37 0 3) (1 : Int32))
              have := i_eq (show v69 37 0 4 = v68 37 0 4 by rw [ev69]; exact up3_j (by decide))
              have : ((v69 36 0 3).toInt = 0 ∧ (v69 36 0 4).toInt = 0) ∨ (0 < (v69 36 0 3).toInt ∧ 0 < (v69 36 0 4).toInt) := hI_v69.2.1
              refine ok_some ?_
              show IM v69 ∧ (Int32.toInt (v69 37 0 4) = Int32.toInt (v 37 0 4)) ∧ ((Int32.toInt (v 30 0 8) < 0 ∧ Int32.toInt (v69 37 0 3) = Int32.toInt (v 37 0 3) + 1) ∨ 0 ≤ Int32.toInt (v69 30 0 8))
              refine ⟨hI_v69, ?_⟩
              omega
          · skip
            have ic55 := i_ne c55
            have : (0 : Int) ≤ (v54 30 0 11).toInt ∧ (v54 30 0 11).toInt ≤ (5 : Int) := hI_v54.1 30 0 11
            have : (4 : Int32).toInt = 4 := (by decide)
            refine ok_kb2 (k_X8_takes v54 hI_v54 0 1 ) (fun r71 v72 hr71 => ?_)
            have hr71 : IM v72 ∧ (Int32.toInt (v72 37 0 3) = Int32.toInt (v54 37 0 3)) ∧ (Int32.toInt (v72 37 0 4) = Int32.toInt (v54 37 0 4)) ∧ (Int32.toInt (v54 30 0 8) < 0 ∨ 0 ≤ Int32.toInt (v72 30 0 8)) ∧ (¬ Int32.toInt 0 = 0 ∨ 0 ≤ Int32.toInt (v72 30 0 8)) ∧ (Int32.toInt r71 = 0 ∨ (Int32.toInt r71 = Int32.toInt (v54 30 0 12) ∧ ¬ Int32.toInt 0 = 0)) := hr71
            obtain ⟨hI_v72, hr71⟩ := hr71
            have : ((v72 36 0 3).toInt = 0 ∧ (v72 36 0 4).toInt = 0) ∨ (0 < (v72 36 0 3).toInt ∧ 0 < (v72 36 0 4).toInt) := hI_v72.2.1
            have : (0 : Int) ≤ (v54 37 0 3).toInt ∧ (v54 37 0 3).toInt ≤ (6 : Int) := hI_v54.1 37 0 3
            have : (0 : Int) ≤ (v54 37 0 4).toInt ∧ (v54 37 0 4).toInt ≤ (4 : Int) := hI_v54.1 37 0 4
            have : (-1 : Int) ≤ (v54 30 0 8).toInt ∧ (v54 30 0 8).toInt ≤ (100 : Int) := hI_v54.1 30 0 8
            have : (0 : Int32).toInt = 0 := (by decide)
            have : (1 : Int32).toInt = 1 := (by decide)
            refine ok_bind (k_X8_isWell v72 hI_v72  ) (fun r74 hr74 => ?_)
            have hr74 : (0 : Int) ≤ Int32.toInt r74 ∧ Int32.toInt r74 ≤ (1 : Int) ∧ ((Int32.toInt r74 = 0 ∧ 0 ≤ Int32.toInt (v72 30 0 8)) ∨ (Int32.toInt r74 = 1 ∧ Int32.toInt (v72 30 0 8) < 0)) := hr74
            have : (-1 : Int) ≤ (v72 30 0 8).toInt ∧ (v72 30 0 8).toInt ≤ (100 : Int) := hI_v72.1 30 0 8
            refine ok_ite _ (fun c76 => ?_) (fun c76 => ?_)
            · skip
              have ic76 := i_eq c76
              have : (0 : Int32).toInt = 0 := (by decide)
              refine ok_some ?_
              show IM v72 ∧ (Int32.toInt (v72 37 0 4) = Int32.toInt (v 37 0 4)) ∧ ((Int32.toInt (v 30 0 8) < 0 ∧ Int32.toInt (v72 37 0 3) = Int32.toInt (v 37 0 3) + 1) ∨ 0 ≤ Int32.toInt (v72 30 0 8))
              refine ⟨hI_v72, ?_⟩
              omega
            · skip
              have ic76 := i_ne c76
              have : (0 : Int32).toInt = 0 := (by decide)
              refine ok_grd _ ?_ ?_
              · skip
                have : (8 : Int32).toInt = 8 := (by decide)
                have : (3 : Int32).toInt = 3 := (by decide)
                have : (0 : Int32).toInt = 0 := (by decide)
                (first | have := sp_mulcx (3 : Int32) (0 : Int32) 0 (by decide) (by omega) | obtain ⟨k58, hk58⟩ := sp_mulc (3 : Int32) (0 : Int32) 0 (by decide))
                (first | have := sp_addx (8 : Int32) ((3 : Int32) * 0) (by omega) | obtain ⟨k59, hk59⟩ := sp_add (8 : Int32) ((3 : Int32) * 0))
                exact gr (by omega) (by omega)
              refine ok_let (fun v78 ev78 => ?_)
              have : (8 : Int32).toInt = 8 := (by decide)
              have : (3 : Int32).toInt = 3 := (by decide)
              have : (0 : Int32).toInt = 0 := (by decide)
              (first | have := sp_mulcx (3 : Int32) (0 : Int32) 0 (by decide) (by omega) | obtain ⟨k60, hk60⟩ := sp_mulc (3 : Int32) (0 : Int32) 0 (by decide))
              (first | have := sp_addx (8 : Int32) ((3 : Int32) * 0) (by omega) | obtain ⟨k61, hk61⟩ := sp_add (8 : Int32) ((3 : Int32) * 0))
              have hI_v78 : IM v78 := by
                rw [ev78]
                first | exact hI_v72.um7 (by omega) (by omega) | exact hI_v72.u07
              have := i_eq (show v78 30 0 8 = v72 30 0 8 by rw [ev78]; exact up3_t (by decide))
              have := i_eq (show v78 30 0 11 = v72 30 0 11 by rw [ev78]; exact up3_t (by decide))
              have := i_eq (show v78 30 0 12 = v72 30 0 12 by rw [ev78]; exact up3_t (by decide))
              (try have := i_eq (show v78 37 0 3 = v72 37 0 3 by rw [ev78]; exact up3_j (tcne (by omega) (by omega))))
              (try have := i_eq (show v78 37 0 4 = v72 37 0 4 by rw [ev78]; exact up3_j (tcne (by omega) (by omega))))
              have : ((v78 36 0 3).toInt = 0 ∧ (v78 36 0 4).toInt = 0) ∨ (0 < (v78 36 0 3).toInt ∧ 0 < (v78 36 0 4).toInt) := hI_v78.2.1
              refine ok_grd _ ?_ ?_
              · skip
                have : (8 : Int32).toInt = 8 := (by decide)
                have : (3 : Int32).toInt = 3 := (by decide)
                have : (0 : Int32).toInt = 0 := (by decide)
                (first | have := sp_mulcx (3 : Int32) (0 : Int32) 0 (by decide) (by omega) | obtain ⟨k62, hk62⟩ := sp_mulc (3 : Int32) (0 : Int32) 0 (by decide))
                (first | have := sp_addx (8 : Int32) ((3 : Int32) * 0) (by omega) | obtain ⟨k63, hk63⟩ := sp_add (8 : Int32) ((3 : Int32) * 0))
                have : (1 : Int32).toInt = 1 := (by decide)
                (first | have := sp_addx ((8 : Int32) + ((3 : Int32) * 0)) (1 : Int32) (by omega) | obtain ⟨k64, hk64⟩ := sp_add ((8 : Int32) + ((3 : Int32) * 0)) (1 : Int32))
                exact gr (by omega) (by omega)
              refine ok_let (fun v80 ev80 => ?_)
              have : (8 : Int32).toInt = 8 := (by decide)
              have : (3 : Int32).toInt = 3 := (by decide)
              have : (0 : Int32).toInt = 0 := (by decide)
              (first | have := sp_mulcx (3 : Int32) (0 : Int32) 0 (by decide) (by omega) | obtain ⟨k65, hk65⟩ := sp_mulc (3 : Int32) (0 : Int32) 0 (by decide))
              (first | have := sp_addx (8 : Int32) ((3 : Int32) * 0) (by omega) | obtain ⟨k66, hk66⟩ := sp_add (8 : Int32) ((3 : Int32) * 0))
              have : (1 : Int32).toInt = 1 := (by decide)
              (first | have := sp_addx ((8 : Int32) + ((3 : Int32) * 0)) (1 : Int32) (by omega) | obtain ⟨k67, hk67⟩ := sp_add ((8 : Int32) + ((3 : Int32) * 0)) (1 : Int32))
              have hI_v80 : IM v80 := by
                rw [ev80]
                first | exact hI_v78.um7 (by omega) (by omega) | exact hI_v78.u07
              have := i_eq (show v80 30 0 8 = v78 30 0 8 by rw [ev80]; exact up3_t (by decide))
              have := i_eq (show v80 30 0 11 = v78 30 0 11 by rw [ev80]; exact up3_t (by decide))
              have := i_eq (show v80 30 0 12 = v78 30 0 12 by rw [ev80]; exact up3_t (by decide))
              (try have := i_eq (show v80 37 0 3 = v78 37 0 3 by rw [ev80]; exact up3_j (tcne (by omega) (by omega))))
              (try have := i_eq (show v80 37 0 4 = v78 37 0 4 by rw [ev80]; exact up3_j (tcne (by omega) (by omega))))
              have : ((v80 36 0 3).toInt = 0 ∧ (v80 36 0 4).toInt = 0) ∨ (0 < (v80 36 0 3).toInt ∧ 0 < (v80 36 0 4).toInt) := hI_v80.2.1
              refine ok_grd _ ?_ ?_
              · skip
                have : (8 : Int32).toInt = 8 := (by decide)
                have : (3 : Int32).toInt = 3 := (by decide)
                have : (0 : Int32).toInt = 0 := (by decide)
                (first | have := sp_mulcx (3 : Int32) (0 : Int32) 0 (by decide) (by omega) | obtain ⟨k68, hk68⟩ := sp_mulc (3 : Int32) (0 : Int32) 0 (by decide))
                (first | have := sp_addx (8 : Int32) ((3 : Int32) * 0) (by omega) | obtain ⟨k69, hk69⟩ := sp_add (8 : Int32) ((3 : Int32) * 0))
                have : (2 : Int32).toInt = 2 := (by decide)
                (first | have := sp_addx ((8 : Int32) + ((3 : Int32) * 0)) (2 : Int32) (by omega) | obtain ⟨k70, hk70⟩ := sp_add ((8 : Int32) + ((3 : Int32) * 0)) (2 : Int32))
                exact gr (by omega) (by omega)
              refine ok_let (fun v82 ev82 => ?_)
              have : (8 : Int32).toInt = 8 := (by decide)
              have : (3 : Int32).toInt = 3 := (by decide)
              have : (0 : Int32).toInt = 0 := (by decide)
              (first | have := sp_mulcx (3 : Int32) (0 : Int32) 0 (by decide) (by omega) | obtain ⟨k71, hk71⟩ := sp_mulc (3 : Int32) (0 : Int32) 0 (by decide))
              (first | have := sp_addx (8 : Int32) ((3 : Int32) * 0) (by omega) | obtain ⟨k72, hk72⟩ := sp_add (8 : Int32) ((3 : Int32) * 0))
              have : (2 : Int32).toInt = 2 := (by decide)
              (first | have := sp_addx ((8 : Int32) + ((3 : Int32) * 0)) (2 : Int32) (by omega) | obtain ⟨k73, hk73⟩ := sp_add ((8 : Int32) + ((3 : Int32) * 0)) (2 : Int32))
              have : (97 : Int32).toInt = 97 := (by decide)
              have := i_bd r53
              (first | have := sp_subx r53 (97 : Int32) (by omega) | obtain ⟨k74, hk74⟩ := sp_sub r53 (97 : Int32))
              have hI_v82 : IM v82 := by
                rw [ev82]
                first | exact hI_v80.um7 (by omega) (by omega) | exact hI_v80.u07
              have := i_eq (show v82 30 0 8 = v80 30 0 8 by rw [ev82]; exact up3_t (by decide))
              have := i_eq (show v82 30 0 11 = v80 30 0 11 by rw [ev82]; exact up3_t (by decide))
              have := i_eq (show v82 30 0 12 = v80 30 0 12 by rw [ev82]; exact up3_t (by decide))
              (try have := i_eq (show v82 37 0 3 = v80 37 0 3 by rw [ev82]; exact up3_j (tcne (by omega) (by omega))))
              (try have := i_eq (show v82 37 0 4 = v80 37 0 4 by rw [ev82]; exact up3_j (tcne (by omega) (by omega))))
              have : ((v82 36 0 3).toInt = 0 ∧ (v82 36 0 4).toInt = 0) ∨ (0 < (v82 36 0 3).toInt ∧ 0 < (v82 36 0 4).toInt) := hI_v82.2.1
              refine ok_let (fun v83 ev83 => ?_)
              have hI_v83 : IM v83 := by
                rw [ev83]
                refine hI_v82.upo (by decide) ?_
                show (0 : Int) ≤ Int32.toInt ((v82 37 0 3) + 1) ∧ Int32.toInt ((v82 37 0 3) + 1) ≤ (6 : Int)
                have : (0 : Int) ≤ (v82 37 0 3).toInt ∧ (v82 37 0 3).toInt ≤ (6 : Int) := hI_v82.1 37 0 3
                have : (1 : Int32).toInt = 1 := (by decide)
                have := i_bd (v82 37 0 3)
                (first | have := sp_addx (v82 37 0 3) (1 : Int32) (by omega) | obtain ⟨k75, hk75⟩ := sp_add (v82 37 0 3) (1 : Int32))
                omega
              have := i_eq (show v83 30 0 8 = v82 30 0 8 by rw [ev83]; exact up3_t (by decide))
              have := i_eq (show v83 30 0 11 = v82 30 0 11 by rw [ev83]; exact up3_t (by decide))
              have := i_eq (show v83 30 0 12 = v82 30 0 12 by rw [ev83]; exact up3_t (by decide))
              have := i_eq (show v83 37 0 3 = ((v82 37 0 3) + 1) by rw [ev83]; exact up3_s)
              have : (0 : Int) ≤ (v82 37 0 3).toInt ∧ (v82 37 0 3).toInt ≤ (6 : Int) := hI_v82.1 37 0 3
              have : (1 : Int32).toInt = 1 := (by decide)
              have := i_bd (v82 37 0 3)
              (first | have := sp_addx (v82 37 0 3) (1 : Int32) (by omega) | obtain ⟨k76, hk76⟩ := sp_add (v82 37 0 3) (1 : Int32))
              have := i_eq (show v83 37 0 4 = v82 37 0 4 by rw [ev83]; exact up3_j (by decide))
              have : ((v83 36 0 3).toInt = 0 ∧ (v83 36 0 4).toInt = 0) ∨ (0 < (v83 36 0 3).toInt ∧ 0 < (v83 36 0 4).toInt) := hI_v83.2.1
              refine ok_some ?_
              show IM v83 ∧ (Int32.toInt (v83 37 0 4) = Int32.toInt (v 37 0 4)) ∧ ((Int32.toInt (v 30 0 8) < 0 ∧ Int32.toInt (v83 37 0 3) = Int32.toInt (v 37 0 3) + 1) ∨ 0 ≤ Int32.toInt (v83 30 0 8))
              refine ⟨hI_v83, ?_⟩
              omega
      · skip
        have ic15 := i_ne c15
        have : (0 : Int32).toInt = 0 := (by decide)
        refine ok_ite _ (fun c84 => ?_) (fun c84 => ?_)
        · skip
          have ic84 := i_eq c84
          have : (0 : Int) ≤ (v11 30 0 11).toInt ∧ (v11 30 0 11).toInt ≤ (5 : Int) := hI_v11.1 30 0 11
          have : (1 : Int32).toInt = 1 := (by decide)
          refine ok_bind (k_X8_isTold v11 hI_v11 r7 r10 ((v11 30 0 12) - 97) ) (fun r86 hr86 => ?_)
          have hr86 : (0 : Int) ≤ Int32.toInt r86 ∧ Int32.toInt r86 ≤ (1 : Int) := hr86
          refine ok_ite _ (fun c88 => ?_) (fun c88 => ?_)
          · skip
            have ic88 := i_eq c88
            have : (0 : Int32).toInt = 0 := (by decide)
            refine ok_kb2 (k_X8_takes v11 hI_v11 1 2 ) (fun r90 v91 hr90 => ?_)
            have hr90 : IM v91 ∧ (Int32.toInt (v91 37 0 3) = Int32.toInt (v11 37 0 3)) ∧ (Int32.toInt (v91 37 0 4) = Int32.toInt (v11 37 0 4)) ∧ (Int32.toInt (v11 30 0 8) < 0 ∨ 0 ≤ Int32.toInt (v91 30 0 8)) ∧ (¬ Int32.toInt 1 = 0 ∨ 0 ≤ Int32.toInt (v91 30 0 8)) ∧ (Int32.toInt r90 = 0 ∨ (Int32.toInt r90 = Int32.toInt (v11 30 0 12) ∧ ¬ Int32.toInt 1 = 0)) := hr90
            obtain ⟨hI_v91, hr90⟩ := hr90
            have : ((v91 36 0 3).toInt = 0 ∧ (v91 36 0 4).toInt = 0) ∨ (0 < (v91 36 0 3).toInt ∧ 0 < (v91 36 0 4).toInt) := hI_v91.2.1
            have : (0 : Int) ≤ (v11 37 0 3).toInt ∧ (v11 37 0 3).toInt ≤ (6 : Int) := hI_v11.1 37 0 3
            have : (0 : Int) ≤ (v11 37 0 4).toInt ∧ (v11 37 0 4).toInt ≤ (4 : Int) := hI_v11.1 37 0 4
            have : (-1 : Int) ≤ (v11 30 0 8).toInt ∧ (v11 30 0 8).toInt ≤ (100 : Int) := hI_v11.1 30 0 8
            have : (1 : Int32).toInt = 1 := (by decide)
            have : (2 : Int32).toInt = 2 := (by decide)
            refine ok_ite _ (fun c92 => ?_) (fun c92 => ?_)
            · skip
              have ic92 := i_eq c92
              have : (0 : Int) ≤ (v91 30 0 11).toInt ∧ (v91 30 0 11).toInt ≤ (5 : Int) := hI_v91.1 30 0 11
              have : (4 : Int32).toInt = 4 := (by decide)
              refine ok_kb2 (k_X8_takes v91 hI_v91 1 1 ) (fun r94 v95 hr94 => ?_)
              have hr94 : IM v95 ∧ (Int32.toInt (v95 37 0 3) = Int32.toInt (v91 37 0 3)) ∧ (Int32.toInt (v95 37 0 4) = Int32.toInt (v91 37 0 4)) ∧ (Int32.toInt (v91 30 0 8) < 0 ∨ 0 ≤ Int32.toInt (v95 30 0 8)) ∧ (¬ Int32.toInt 1 = 0 ∨ 0 ≤ Int32.toInt (v95 30 0 8)) ∧ (Int32.toInt r94 = 0 ∨ (Int32.toInt r94 = Int32.toInt (v91 30 0 12) ∧ ¬ Int32.toInt 1 = 0)) := hr94
              obtain ⟨hI_v95, hr94⟩ := hr94
              have : ((v95 36 0 3).toInt = 0 ∧ (v95 36 0 4).toInt = 0) ∨ (0 < (v95 36 0 3).toInt ∧ 0 < (v95 36 0 4).toInt) := hI_v95.2.1
              have : (0 : Int) ≤ (v91 37 0 3).toInt ∧ (v91 37 0 3).toInt ≤ (6 : Int) := hI_v91.1 37 0 3
              have : (0 : Int) ≤ (v91 37 0 4).toInt ∧ (v91 37 0 4).toInt ≤ (4 : Int) := hI_v91.1 37 0 4
              have : (-1 : Int) ≤ (v91 30 0 8).toInt ∧ (v91 30 0 8).toInt ≤ (100 : Int) := hI_v91.1 30 0 8
              have : (1 : Int32).toInt = 1 := (by decide)
              refine ok_bind (k_X8_isWell v95 hI_v95  ) (fun r97 hr97 => ?_)
              have hr97 : (0 : Int) ≤ Int32.toInt r97 ∧ Int32.toInt r97 ≤ (1 : Int) ∧ ((Int32.toInt r97 = 0 ∧ 0 ≤ Int32.toInt (v95 30 0 8)) ∨ (Int32.toInt r97 = 1 ∧ Int32.toInt (v95 30 0 8) < 0)) := hr97
              have : (-1 : Int) ≤ (v95 30 0 8).toInt ∧ (v95 30 0 8).toInt ≤ (100 : Int) := hI_v95.1 30 0 8
              refine ok_ite _ (fun c99 => ?_) (fun c99 => ?_)
              · skip
                have ic99 := i_eq c99
                have : (0 : Int32).toInt = 0 := (by decide)
                refine ok_some ?_
                show IM v95 ∧ (Int32.toInt (v95 37 0 4) = Int32.toInt (v 37 0 4)) ∧ ((Int32.toInt (v 30 0 8) < 0 ∧ Int32.toInt (v95 37 0 3) = Int32.toInt (v 37 0 3) + 1) ∨ 0 ≤ Int32.toInt (v95 30 0 8))
                refine ⟨hI_v95, ?_⟩
                omega
              · skip
                have ic99 := i_ne c99
                have : (0 : Int32).toInt = 0 := (by decide)
                refine ok_grd _ ?_ ?_
                · skip
                  have : (8 : Int32).toInt = 8 := (by decide)
                  have : (3 : Int32).toInt = 3 := (by decide)
                  have : (0 : Int32).toInt = 0 := (by decide)
                  (first | have := sp_mulcx (3 : Int32) (0 : Int32) 0 (by decide) (by omega) | obtain ⟨k77, hk77⟩ := sp_mulc (3 : Int32) (0 : Int32) 0 (by decide))
                  (first | have := sp_addx (8 : Int32) ((3 : Int32) * 0) (by omega) | obtain ⟨k78, hk78⟩ := sp_add (8 : Int32) ((3 : Int32) * 0))
                  exact gr (by omega) (by omega)
                refine ok_let (fun v101 ev101 => ?_)
                have : (8 : Int32).toInt = 8 := (by decide)
                have : (3 : Int32).toInt = 3 := (by decide)
                have : (0 : Int32).toInt = 0 := (by decide)
                (first | have := sp_mulcx (3 : Int32) (0 : Int32) 0 (by decide) (by omega) | obtain ⟨k79, hk79⟩ := sp_mulc (3 : Int32) (0 : Int32) 0 (by decide))
                (first | have := sp_addx (8 : Int32) ((3 : Int32) * 0) (by omega) | obtain ⟨k80, hk80⟩ := sp_add (8 : Int32) ((3 : Int32) * 0))
                have hI_v101 : IM v101 := by
                  rw [ev101]
                  first | exact hI_v95.um7 (by omega) (by omega) | exact hI_v95.u07
                have := i_eq (show v101 30 0 8 = v95 30 0 8 by rw [ev101]; exact up3_t (by decide))
                have := i_eq (show v101 30 0 11 = v95 30 0 11 by rw [ev101]; exact up3_t (by decide))
                have := i_eq (show v101 30 0 12 = v95 30 0 12 by rw [ev101]; exact up3_t (by decide))
                (try have := i_eq (show v101 37 0 3 = v95 37 0 3 by rw [ev101]; exact up3_j (tcne (by omega) (by omega))))
                (try have := i_eq (show v101 37 0 4 = v95 37 0 4 by rw [ev101]; exact up3_j (tcne (by omega) (by omega))))
                have : ((v101 36 0 3).toInt = 0 ∧ (v101 36 0 4).toInt = 0) ∨ (0 < (v101 36 0 3).toInt ∧ 0 < (v101 36 0 4).toInt) := hI_v101.2.1
                refine ok_grd _ ?_ ?_
                · skip
                  have : (8 : Int32).toInt = 8 := (by decide)
                  have : (3 : Int32).toInt = 3 := (by decide)
                  have : (0 : Int32).toInt = 0 := (by decide)
                  (first | have := sp_mulcx (3 : Int32) (0 : Int32) 0 (by decide) (by omega) | obtain ⟨k81, hk81⟩ := sp_mulc (3 : Int32) (0 : Int32) 0 (by decide))
                  (first | have := sp_addx (8 : Int32) ((3 : Int32) * 0) (by omega) | obtain ⟨k82, hk82⟩ := sp_add (8 : Int32) ((3 : Int32) * 0))
                  have : (1 : Int32).toInt = 1 := (by decide)
                  (first | have := sp_addx ((8 : Int32) + ((3 : Int32) * 0)) (1 : Int32) (by omega) | obtain ⟨k83, hk83⟩ := sp_add ((8 : Int32) + ((3 : Int32) * 0)) (1 : Int32))
                  exact gr (by omega) (by omega)
                refine ok_let (fun v103 ev103 => ?_)
                have : (8 : Int32).toInt = 8 := (by decide)
                have : (3 : Int32).toInt = 3 := (by decide)
                have : (0 : Int32).toInt = 0 := (by decide)
                (first | have := sp_mulcx (3 : Int32) (0 : Int32) 0 (by decide) (by omega) | obtain ⟨k84, hk84⟩ := sp_mulc (3 : Int32) (0 : Int32) 0 (by decide))
                (first | have := sp_addx (8 : Int32) ((3 : Int32) * 0) (by omega) | obtain ⟨k85, hk85⟩ := sp_add (8 : Int32) ((3 : Int32) * 0))
                have : (1 : Int32).toInt = 1 := (by decide)
                (first | have := sp_addx ((8 : Int32) + ((3 : Int32) * 0)) (1 : Int32) (by omega) | obtain ⟨k86, hk86⟩ := sp_add ((8 : Int32) + ((3 : Int32) * 0)) (1 : Int32))
                have hI_v103 : IM v103 := by
                  rw [ev103]
                  first | exact hI_v101.um7 (by omega) (by omega) | exact hI_v101.u07
                have := i_eq (show v103 30 0 8 = v101 30 0 8 by rw [ev103]; exact up3_t (by decide))
                have := i_eq (show v103 30 0 11 = v101 30 0 11 by rw [ev103]; exact up3_t (by decide))
                have := i_eq (show v103 30 0 12 = v101 30 0 12 by rw [ev103]; exact up3_t (by decide))
                (try have := i_eq (show v103 37 0 3 = v101 37 0 3 by rw [ev103]; exact up3_j (tcne (by omega) (by omega))))
                (try have := i_eq (show v103 37 0 4 = v101 37 0 4 by rw [ev103]; exact up3_j (tcne (by omega) (by omega))))
                have : ((v103 36 0 3).toInt = 0 ∧ (v103 36 0 4).toInt = 0) ∨ (0 < (v103 36 0 3).toInt ∧ 0 < (v103 36 0 4).toInt) := hI_v103.2.1
                refine ok_grd _ ?_ ?_
                · skip
                  have : (8 : Int32).toInt = 8 := (by decide)
                  have : (3 : Int32).toInt = 3 := (by decide)
                  have : (0 : Int32).toInt = 0 := (by decide)
                  (first | have := sp_mulcx (3 : Int32) (0 : Int32) 0 (by decide) (by omega) | obtain ⟨k87, hk87⟩ := sp_mulc (3 : Int32) (0 : Int32) 0 (by decide))
                  (first | have := sp_addx (8 : Int32) ((3 : Int32) * 0) (by omega) | obtain ⟨k88, hk88⟩ := sp_add (8 : Int32) ((3 : Int32) * 0))
                  have : (2 : Int32).toInt = 2 := (by decide)
                  (first | have := sp_addx ((8 : Int32) + ((3 : Int32) * 0)) (2 : Int32) (by omega) | obtain ⟨k89, hk89⟩ := sp_add ((8 : Int32) + ((3 : Int32) * 0)) (2 : Int32))
                  exact gr (by omega) (by omega)
                refine ok_let (fun v105 ev105 => ?_)
                have : (8 : Int32).toInt = 8 := (by decide)
                have : (3 : Int32).toInt = 3 := (by decide)
                have : (0 : Int32).toInt = 0 := (by decide)
                (first | have := sp_mulcx (3 : Int32) (0 : Int32) 0 (by decide) (by omega) | obtain ⟨k90, hk90⟩ := sp_mulc (3 : Int32) (0 : Int32) 0 (by decide))
                (first | have := sp_addx (8 : Int32) ((3 : Int32) * 0) (by omega) | obtain ⟨k91, hk91⟩ := sp_add (8 : Int32) ((3 : Int32) * 0))
                have : (2 : Int32).toInt = 2 := (by decide)
                (first | have := sp_addx ((8 : Int32) + ((3 : Int32) * 0)) (2 : Int32) (by omega) | obtain ⟨k92, hk92⟩ := sp_add ((8 : Int32) + ((3 : Int32) * 0)) (2 : Int32))
                have : (97 : Int32).toInt = 97 := (by decide)
                have := i_bd r90
                (first | have := sp_subx r90 (97 : Int32) (by omega) | obtain ⟨k93, hk93⟩ := sp_sub r90 (97 : Int32))
                have hI_v105 : IM v105 := by
                  rw [ev105]
                  first | exact hI_v103.um7 (by omega) (by omega) | exact hI_v103.u07
                have := i_eq (show v105 30 0 8 = v103 30 0 8 by rw [ev105]; exact up3_t (by decide))
                have := i_eq (show v105 30 0 11 = v103 30 0 11 by rw [ev105]; exact up3_t (by decide))
                have := i_eq (show v105 30 0 12 = v103 30 0 12 by rw [ev105]; exact up3_t (by decide))
                (try have := i_eq (show v105 37 0 3 = v103 37 0 3 by rw [ev105]; exact up3_j (tcne (by omega) (by omega))))
                (try have := i_eq (show v105 37 0 4 = v103 37 0 4 by rw [ev105]; exact up3_j (tcne (by omega) (by omega))))
                have : ((v105 36 0 3).toInt = 0 ∧ (v105 36 0 4).toInt = 0) ∨ (0 < (v105 36 0 3).toInt ∧ 0 < (v105 36 0 4).toInt) := hI_v105.2.1
                refine ok_let (fun v106 ev106 => ?_)
                have hI_v106 : IM v106 := by
                  rw [ev106]
                  refine hI_v105.upo (by decide) ?_
                  show (0 : Int) ≤ Int32.toInt ((v105 37 0 3) + 1) ∧ Int32.toInt ((v105 37 0 3) + 1) ≤ (6 : Int)
                  have : (0 : Int) ≤ (v105 37 0 3).toInt ∧ (v105 37 0 3).toInt ≤ (6 : Int) := hI_v105.1 37 0 3
                  have : (1 : Int32).toInt = 1 := (by decide)
                  have := i_bd (v105 37 0 3)
                  (first | have := sp_addx (v105 37 0 3) (1 : Int32) (by omega) | obtain ⟨k94, hk94⟩ := sp_add (v105 37 0 3) (1 : Int32))
                  omega
                have := i_eq (show v106 30 0 8 = v105 30 0 8 by rw [ev106]; exact up3_t (by decide))
                have := i_eq (show v106 30 0 11 = v105 30 0 11 by rw [ev106]; exact up3_t (by decide))
                have := i_eq (show v106 30 0 12 = v105 30 0 12 by rw [ev106]; exact up3_t (by decide))
                have := i_eq (show v106 37 0 3 = ((v105 37 0 3) + 1) by rw [ev106]; exact up3_s)
                have : (0 : Int) ≤ (v105 37 0 3).toInt ∧ (v105 37 0 3).toInt ≤ (6 : Int) := hI_v105.1 37 0 3
                have : (1 : Int32).toInt = 1 := (by decide)
                have := i_bd (v105 37 0 3)
                (first | have := sp_addx (v105 37 0 3) (1 : Int32) (by omega) | obtain ⟨k95, hk95⟩ := sp_add (v105 37 0 3) (1 : Int32))
                have := i_eq (show v106 37 0 4 = v105 37 0 4 by rw [ev106]; exact up3_j (by decide))
                have : ((v106 36 0 3).toInt = 0 ∧ (v106 36 0 4).toInt = 0) ∨ (0 < (v106 36 0 3).toInt ∧ 0 < (v106 36 0 4).toInt) := hI_v106.2.1
                refine ok_some ?_
                show IM v106 ∧ (Int32.toInt (v106 37 0 4) = Int32.toInt (v 37 0 4)) ∧ ((Int32.toInt (v 30 0 8) < 0 ∧ Int32.toInt (v106 37 0 3) = Int32.toInt (v 37 0 3) + 1) ∨ 0 ≤ Int32.toInt (v106 30 0 8))
                refine ⟨hI_v106, ?_⟩
                omega
            · skip
              have ic92 := i_ne c92
              have : (0 : Int) ≤ (v91 30 0 11).toInt ∧ (v91 30 0 11).toInt ≤ (5 : Int) := hI_v91.1 30 0 11
              have : (4 : Int32).toInt = 4 := (by decide)
              refine ok_kb2 (k_X8_takes v91 hI_v91 0 1 ) (fun r108 v109 hr108 => ?_)
              have hr108 : IM v109 ∧ (Int32.toInt (v109 37 0 3) = Int32.toInt (v91 37 0 3)) ∧ (Int32.toInt (v109 37 0 4) = Int32.toInt (v91 37 0 4)) ∧ (Int32.toInt (v91 30 0 8) < 0 ∨ 0 ≤ Int32.toInt (v109 30 0 8)) ∧ (¬ Int32.toInt 0 = 0 ∨ 0 ≤ Int32.toInt (v109 30 0 8)) ∧ (Int32.toInt r108 = 0 ∨ (Int32.toInt r108 = Int32.toInt (v91 30 0 12) ∧ ¬ Int32.toInt 0 = 0)) := hr108
              obtain ⟨hI_v109, hr108⟩ := hr108
              have : ((v109 36 0 3).toInt = 0 ∧ (v109 36 0 4).toInt = 0) ∨ (0 < (v109 36 0 3).toInt ∧ 0 < (v109 36 0 4).toInt) := hI_v109.2.1
              have : (0 : Int) ≤ (v91 37 0 3).toInt ∧ (v91 37 0 3).toInt ≤ (6 : Int) := hI_v91.1 37 0 3
              have : (0 : Int) ≤ (v91 37 0 4).toInt ∧ (v91 37 0 4).toInt ≤ (4 : Int) := hI_v91.1 37 0 4
              have : (-1 : Int) ≤ (v91 30 0 8).toInt ∧ (v91 30 0 8).toInt ≤ (100 : Int) := hI_v91.1 30 0 8
              have : (0 : Int32).toInt = 0 := (by decide)
              have : (1 : Int32).toInt = 1 := (by decide)
              refine ok_bind (k_X8_isWell v109 hI_v109  ) (fun r111 hr111 => ?_)
              have hr111 : (0 : Int) ≤ Int32.toInt r111 ∧ Int32.toInt r111 ≤ (1 : Int) ∧ ((Int32.toInt r111 = 0 ∧ 0 ≤ Int32.toInt (v109 30 0 8)) ∨ (Int32.toInt r111 = 1 ∧ Int32.toInt (v109 30 0 8) < 0)) := hr111
              have : (-1 : Int) ≤ (v109 30 0 8).toInt ∧ (v109 30 0 8).toInt ≤ (100 : Int) := hI_v109.1 30 0 8
              refine ok_ite _ (fun c113 => ?_) (fun c113 => ?_)
              · skip
                have ic113 := i_eq c113
                have : (0 : Int32).toInt = 0 := (by decide)
                refine ok_some ?_
                show IM v109 ∧ (Int32.toInt (v109 37 0 4) = Int32.toInt (v 37 0 4)) ∧ ((Int32.toInt (v 30 0 8) < 0 ∧ Int32.toInt (v109 37 0 3) = Int32.toInt (v 37 0 3) + 1) ∨ 0 ≤ Int32.toInt (v109 30 0 8))
                refine ⟨hI_v109, ?_⟩
                omega
              · skip
                have ic113 := i_ne c113
                have : (0 : Int32).toInt = 0 := (by decide)
                refine ok_grd _ ?_ ?_
                · skip
                  have : (8 : Int32).toInt = 8 := (by decide)
                  have : (3 : Int32).toInt = 3 := (by decide)
                  have : (0 : Int32).toInt = 0 := (by decide)
                  (first | have := sp_mulcx (3 : Int32) (0 : Int32) 0 (by decide) (by omega) | obtain ⟨k96, hk96⟩ := sp_mulc (3 : Int32) (0 : Int32) 0 (by decide))
                  (first | have := sp_addx (8 : Int32) ((3 : Int32) * 0) (by omega) | obtain ⟨k97, hk97⟩ := sp_add (8 : Int32) ((3 : Int32) * 0))
                  exact gr (by omega) (by omega)
                refine ok_let (fun v115 ev115 => ?_)
                have : (8 : Int32).toInt = 8 := (by decide)
                have : (3 : Int32).toInt = 3 := (by decide)
                have : (0 : Int32).toInt = 0 := (by decide)
                (first | have := sp_mulcx (3 : Int32) (0 : Int32) 0 (by decide) (by omega) | obtain ⟨k98, hk98⟩ := sp_mulc (3 : Int32) (0 : Int32) 0 (by decide))
                (first | have := sp_addx (8 : Int32) ((3 : Int32) * 0) (by omega) | obtain ⟨k99, hk99⟩ := sp_add (8 : Int32) ((3 : Int32) * 0))
                have hI_v115 : IM v115 := by
                  rw [ev115]
                  first | exact hI_v109.um7 (by omega) (by omega) | exact hI_v109.u07
                have := i_eq (show v115 30 0 8 = v109 30 0 8 by rw [ev115]; exact up3_t (by decide))
                have := i_eq (show v115 30 0 11 = v109 30 0 11 by rw [ev115]; exact up3_t (by decide))
                have := i_eq (show v115 30 0 12 = v109 30 0 12 by rw [ev115]; exact up3_t (by decide))
                (try have := i_eq (show v115 37 0 3 = v109 37 0 3 by rw [ev115]; exact up3_j (tcne (by omega) (by omega))))
                (try have := i_eq (show v115 37 0 4 = v109 37 0 4 by rw [ev115]; exact up3_j (tcne (by omega) (by omega))))
                have : ((v115 36 0 3).toInt = 0 ∧ (v115 36 0 4).toInt = 0) ∨ (0 < (v115 36 0 3).toInt ∧ 0 < (v115 36 0 4).toInt) := hI_v115.2.1
                refine ok_grd _ ?_ ?_
                · skip
                  have : (8 : Int32).toInt = 8 := (by decide)
                  have : (3 : Int32).toInt = 3 := (by decide)
                  have : (0 : Int32).toInt = 0 := (by decide)
                  (first | have := sp_mulcx (3 : Int32) (0 : Int32) 0 (by decide) (by omega) | obtain ⟨k100, hk100⟩ := sp_mulc (3 : Int32) (0 : Int32) 0 (by decide))
                  (first | have := sp_addx (8 : Int32) ((3 : Int32) * 0) (by omega) | obtain ⟨k101, hk101⟩ := sp_add (8 : Int32) ((3 : Int32) * 0))
                  have : (1 : Int32).toInt = 1 := (by decide)
                  (first | have := sp_addx ((8 : Int32) + ((3 : Int32) * 0)) (1 : Int32) (by omega) | obtain ⟨k102, hk102⟩ := sp_add ((8 : Int32) + ((3 : Int32) * 0)) (1 : Int32))
                  exact gr (by omega) (by omega)
                refine ok_let (fun v117 ev117 => ?_)
                have : (8 : Int32).toInt = 8 := (by decide)
                have : (3 : Int32).toInt = 3 := (by decide)
                have : (0 : Int32).toInt = 0 := (by decide)
                (first | have := sp_mulcx (3 : Int32) (0 : Int32) 0 (by decide) (by omega) | obtain ⟨k103, hk103⟩ := sp_mulc (3 : Int32) (0 : Int32) 0 (by decide))
                (first | have := sp_addx (8 : Int32) ((3 : Int32) * 0) (by omega) | obtain ⟨k104, hk104⟩ := sp_add (8 : Int32) ((3 : Int32) * 0))
                have : (1 : Int32).toInt = 1 := (by decide)
                (first | have := sp_addx ((8 : Int32) + ((3 : Int32) * 0)) (1 : Int32) (by omega) | obtain ⟨k105, hk105⟩ := sp_add ((8 : Int32) + ((3 : Int32) * 0)) (1 : Int32))
                have hI_v117 : IM v117 := by
                  rw [ev117]
                  first | exact hI_v115.um7 (by omega) (by omega) | exact hI_v115.u07
                have := i_eq (show v117 30 0 8 = v115 30 0 8 by rw [ev117]; exact up3_t (by decide))
                have := i_eq (show v117 30 0 11 = v115 30 0 11 by rw [ev117]; exact up3_t (by decide))
                have := i_eq (show v117 30 0 12 = v115 30 0 12 by rw [ev117]; exact up3_t (by decide))
                (try have := i_eq (show v117 37 0 3 = v115 37 0 3 by rw [ev117]; exact up3_j (tcne (by omega) (by omega))))
                (try have := i_eq (show v117 37 0 4 = v115 37 0 4 by rw [ev117]; exact up3_j (tcne (by omega) (by omega))))
                have : ((v117 36 0 3).toInt = 0 ∧ (v117 36 0 4).toInt = 0) ∨ (0 < (v117 36 0 3).toInt ∧ 0 < (v117 36 0 4).toInt) := hI_v117.2.1
                refine ok_grd _ ?_ ?_
                · skip
                  have : (8 : Int32).toInt = 8 := (by decide)
                  have : (3 : Int32).toInt = 3 := (by decide)
                  have : (0 : Int32).toInt = 0 := (by decide)
                  (first | have := sp_mulcx (3 : Int32) (0 : Int32) 0 (by decide) (by omega) | obtain ⟨k106, hk106⟩ := sp_mulc (3 : Int32) (0 : Int32) 0 (by decide))
                  (first | have := sp_addx (8 : Int32) ((3 : Int32) * 0) (by omega) | obtain ⟨k107, hk107⟩ := sp_add (8 : Int32) ((3 : Int32) * 0))
                  have : (2 : Int32).toInt = 2 := (by decide)
                  (first | have := sp_addx ((8 : Int32) + ((3 : Int32) * 0)) (2 : Int32) (by omega) | obtain ⟨k108, hk108⟩ := sp_add ((8 : Int32) + ((3 : Int32) * 0)) (2 : Int32))
                  exact gr (by omega) (by omega)
                refine ok_let (fun v119 ev119 => ?_)
                have : (8 : Int32).toInt = 8 := (by decide)
                have : (3 : Int32).toInt = 3 := (by decide)
                have : (0 : Int32).toInt = 0 := (by decide)
                (first | have := sp_mulcx (3 : Int32) (0 : Int32) 0 (by decide) (by omega) | obtain ⟨k109, hk109⟩ := sp_mulc (3 : Int32) (0 : Int32) 0 (by decide))
                (first | have := sp_addx (8 : Int32) ((3 : Int32) * 0) (by omega) | obtain ⟨k110, hk110⟩ := sp_add (8 : Int32) ((3 : Int32) * 0))
                have : (2 : Int32).toInt = 2 := (by decide)
                (first | have := sp_addx ((8 : Int32) + ((3 : Int32) * 0)) (2 : Int32) (by omega) | obtain ⟨k111, hk111⟩ := sp_add ((8 : Int32) + ((3 : Int32) * 0)) (2 : Int32))
                have : (97 : Int32).toInt = 97 := (by decide)
                have := i_bd r90
                (first | have := sp_subx r90 (97 : Int32) (by omega) | obtain ⟨k112, hk112⟩ := sp_sub r90 (97 : Int32))
                have hI_v119 : IM v119 := by
                  rw [ev119]
                  first | exact hI_v117.um7 (by omega) (by omega) | exact hI_v117.u07
                have := i_eq (show v119 30 0 8 = v117 30 0 8 by rw [ev119]; exact up3_t (by decide))
                have := i_eq (show v119 30 0 11 = v117 30 0 11 by rw [ev119]; exact up3_t (by decide))
                have := i_eq (show v119 30 0 12 = v117 30 0 12 by rw [ev119]; exact up3_t (by decide))
                (try have := i_eq (show v119 37 0 3 = v117 37 0 3 by rw [ev119]; exact up3_j (tcne (by omega) (by omega))))
                (try have := i_eq (show v119 37 0 4 = v117 37 0 4 by rw [ev119]; exact up3_j (tcne (by omega) (by omega))))
                have : ((v119 36 0 3).toInt = 0 ∧ (v119 36 0 4).toInt = 0) ∨ (0 < (v119 36 0 3).toInt ∧ 0 < (v119 36 0 4).toInt) := hI_v119.2.1
                refine ok_let (fun v120 ev120 => ?_)
                have hI_v120 : IM v120 := by
                  rw [ev120]
                  refine hI_v119.upo (by decide) ?_
                  show (0 : Int) ≤ Int32.toInt ((v119 37 0 3) + 1) ∧ Int32.toInt ((v119 37 0 3) + 1) ≤ (6 : Int)
                  have : (0 : Int) ≤ (v119 37 0 3).toInt ∧ (v119 37 0 3).toInt ≤ (6 : Int) := hI_v119.1 37 0 3
                  have : (1 : Int32).toInt = 1 := (by decide)
                  have := i_bd (v119 37 0 3)
                  (first | have := sp_addx (v119 37 0 3) (1 : Int32) (by omega) | obtain ⟨k113, hk113⟩ := sp_add (v119 37 0 3) (1 : Int32))
                  omega
                have := i_eq (show v120 30 0 8 = v119 30 0 8 by rw [ev120]; exact up3_t (by decide))
                have := i_eq (show v120 30 0 11 = v119 30 0 11 by rw [ev120]; exact up3_t (by decide))
                have := i_eq (show v120 30 0 12 = v119 30 0 12 by rw [ev120]; exact up3_t (by decide))
                have := i_eq (show v120 37 0 3 = ((v119 37 0 3) + 1) by rw [ev120]; exact up3_s)
                have : (0 : Int) ≤ (v119 37 0 3).toInt ∧ (v119 37 0 3).toInt ≤ (6 : Int) := hI_v119.1 37 0 3
                have : (1 : Int32).toInt = 1 := (by decide)
                have := i_bd (v119 37 0 3)
                (first | have := sp_addx (v119 37 0 3) (1 : Int32) (by omega) | obtain ⟨k114, hk114⟩ := sp_add (v119 37 0 3) (1 : Int32))
                have := i_eq (show v120 37 0 4 = v119 37 0 4 by rw [ev120]; exact up3_j (by decide))
                have : ((v120 36 0 3).toInt = 0 ∧ (v120 36 0 4).toInt = 0) ∨ (0 < (v120 36 0 3).toInt ∧ 0 < (v120 36 0 4).toInt) := hI_v120.2.1
                refine ok_some ?_
                show IM v120 ∧ (Int32.toInt (v120 37 0 4) = Int32.toInt (v 37 0 4)) ∧ ((Int32.toInt (v 30 0 8) < 0 ∧ Int32.toInt (v120 37 0 3) = Int32.toInt (v 37 0 3) + 1) ∨ 0 ≤ Int32.toInt (v120 30 0 8))
                refine ⟨hI_v120, ?_⟩
                omega
          · skip
            have ic88 := i_ne c88
            have : (0 : Int32).toInt = 0 := (by decide)
            refine ok_kb2 (k_X8_takes v11 hI_v11 0 2 ) (fun r122 v123 hr122 => ?_)
            have hr122 : IM v123 ∧ (Int32.toInt (v123 37 0 3) = Int32.toInt (v11 37 0 3)) ∧ (Int32.toInt (v123 37 0 4) = Int32.toInt (v11 37 0 4)) ∧ (Int32.toInt (v11 30 0 8) < 0 ∨ 0 ≤ Int32.toInt (v123 30 0 8)) ∧ (¬ Int32.toInt 0 = 0 ∨ 0 ≤ Int32.toInt (v123 30 0 8)) ∧ (Int32.toInt r122 = 0 ∨ (Int32.toInt r122 = Int32.toInt (v11 30 0 12) ∧ ¬ Int32.toInt 0 = 0)) := hr122
            obtain ⟨hI_v123, hr122⟩ := hr122
            have : ((v123 36 0 3).toInt = 0 ∧ (v123 36 0 4).toInt = 0) ∨ (0 < (v123 36 0 3).toInt ∧ 0 < (v123 36 0 4).toInt) := hI_v123.2.1
            have : (0 : Int) ≤ (v11 37 0 3).toInt ∧ (v11 37 0 3).toInt ≤ (6 : Int) := hI_v11.1 37 0 3
            have : (0 : Int) ≤ (v11 37 0 4).toInt ∧ (v11 37 0 4).toInt ≤ (4 : Int) := hI_v11.1 37 0 4
            have : (-1 : Int) ≤ (v11 30 0 8).toInt ∧ (v11 30 0 8).toInt ≤ (100 : Int) := hI_v11.1 30 0 8
            have : (0 : Int32).toInt = 0 := (by decide)
            have : (2 : Int32).toInt = 2 := (by decide)
            refine ok_ite _ (fun c124 => ?_) (fun c124 => ?_)
            · skip
              have ic124 := i_eq c124
              have : (0 : Int) ≤ (v123 30 0 11).toInt ∧ (v123 30 0 11).toInt ≤ (5 : Int) := hI_v123.1 30 0 11
              have : (4 : Int32).toInt = 4 := (by decide)
              refine ok_kb2 (k_X8_takes v123 hI_v123 1 1 ) (fun r126 v127 hr126 => ?_)
              have hr126 : IM v127 ∧ (Int32.toInt (v127 37 0 3) = Int32.toInt (v123 37 0 3)) ∧ (Int32.toInt (v127 37 0 4) = Int32.toInt (v123 37 0 4)) ∧ (Int32.toInt (v123 30 0 8) < 0 ∨ 0 ≤ Int32.toInt (v127 30 0 8)) ∧ (¬ Int32.toInt 1 = 0 ∨ 0 ≤ Int32.toInt (v127 30 0 8)) ∧ (Int32.toInt r126 = 0 ∨ (Int32.toInt r126 = Int32.toInt (v123 30 0 12) ∧ ¬ Int32.toInt 1 = 0)) := hr126
              obtain ⟨hI_v127, hr126⟩ := hr126
              have : ((v127 36 0 3).toInt = 0 ∧ (v127 36 0 4).toInt = 0) ∨ (0 < (v127 36 0 3).toInt ∧ 0 < (v127 36 0 4).toInt) := hI_v127.2.1
              have : (0 : Int) ≤ (v123 37 0 3).toInt ∧ (v123 37 0 3).toInt ≤ (6 : Int) := hI_v123.1 37 0 3
              have : (0 : Int) ≤ (v123 37 0 4).toInt ∧ (v123 37 0 4).toInt ≤ (4 : Int) := hI_v123.1 37 0 4
              have : (-1 : Int) ≤ (v123 30 0 8).toInt ∧ (v123 30 0 8).toInt ≤ (100 : Int) := hI_v123.1 30 0 8
              have : (1 : Int32).toInt = 1 := (by decide)
              refine ok_bind (k_X8_isWell v127 hI_v127  ) (fun r129 hr129 => ?_)
              have hr129 : (0 : Int) ≤ Int32.toInt r129 ∧ Int32.toInt r129 ≤ (1 : Int) ∧ ((Int32.toInt r129 = 0 ∧ 0 ≤ Int32.toInt (v127 30 0 8)) ∨ (Int32.toInt r129 = 1 ∧ Int32.toInt (v127 30 0 8) < 0)) := hr129
              have : (-1 : Int) ≤ (v127 30 0 8).toInt ∧ (v127 30 0 8).toInt ≤ (100 : Int) := hI_v127.1 30 0 8
              refine ok_ite _ (fun c131 => ?_) (fun c131 => ?_)
              · skip
                have ic131 := i_eq c131
                have : (0 : Int32).toInt = 0 := (by decide)
                refine ok_some ?_
                show IM v127 ∧ (Int32.toInt (v127 37 0 4) = Int32.toInt (v 37 0 4)) ∧ ((Int32.toInt (v 30 0 8) < 0 ∧ Int32.toInt (v127 37 0 3) = Int32.toInt (v 37 0 3) + 1) ∨ 0 ≤ Int32.toInt (v127 30 0 8))
                refine ⟨hI_v127, ?_⟩
                omega
              · skip
                have ic131 := i_ne c131
                have : (0 : Int32).toInt = 0 := (by decide)
                refine ok_grd _ ?_ ?_
                · skip
                  have : (8 : Int32).toInt = 8 := (by decide)
                  have : (3 : Int32).toInt = 3 := (by decide)
                  have : (0 : Int32).toInt = 0 := (by decide)
                  (first | have := sp_mulcx (3 : Int32) (0 : Int32) 0 (by decide) (by omega) | obtain ⟨k115, hk115⟩ := sp_mulc (3 : Int32) (0 : Int32) 0 (by decide))
                  (first | have := sp_addx (8 : Int32) ((3 : Int32) * 0) (by omega) | obtain ⟨k116, hk116⟩ := sp_add (8 : Int32) ((3 : Int32) * 0))
                  exact gr (by omega) (by omega)
                refine ok_let (fun v133 ev133 => ?_)
                have : (8 : Int32).toInt = 8 := (by decide)
                have : (3 : Int32).toInt = 3 := (by decide)
                have : (0 : Int32).toInt = 0 := (by decide)
                (first | have := sp_mulcx (3 : Int32) (0 : Int32) 0 (by decide) (by omega) | obtain ⟨k117, hk117⟩ := sp_mulc (3 : Int32) (0 : Int32) 0 (by decide))
                (first | have := sp_addx (8 : Int32) ((3 : Int32) * 0) (by omega) | obtain ⟨k118, hk118⟩ := sp_add (8 : Int32) ((3 : Int32) * 0))
                have hI_v133 : IM v133 := by
                  rw [ev133]
                  first | exact hI_v127.um7 (by omega) (by omega) | exact hI_v127.u07
                have := i_eq (show v133 30 0 8 = v127 30 0 8 by rw [ev133]; exact up3_t (by decide))
                have := i_eq (show v133 30 0 11 = v127 30 0 11 by rw [ev133]; exact up3_t (by decide))
                have := i_eq (show v133 30 0 12 = v127 30 0 12 by rw [ev133]; exact up3_t (by decide))
                (try have := i_eq (show v133 37 0 3 = v127 37 0 3 by rw [ev133]; exact up3_j (tcne (by omega) (by omega))))
                (try have := i_eq (show v133 37 0 4 = v127 37 0 4 by rw [ev133]; exact up3_j (tcne (by omega) (by omega))))
                have : ((v133 36 0 3).toInt = 0 ∧ (v133 36 0 4).toInt = 0) ∨ (0 < (v133 36 0 3).toInt ∧ 0 < (v133 36 0 4).toInt) := hI_v133.2.1
                refine ok_grd _ ?_ ?_
                · skip
                  have : (8 : Int32).toInt = 8 := (by decide)
                  have : (3 : Int32).toInt = 3 := (by decide)
                  have : (0 : Int32).toInt = 0 := (by decide)
                  (first | have := sp_mulcx (3 : Int32) (0 : Int32) 0 (by decide) (by omega) | obtain ⟨k119, hk119⟩ := sp_mulc (3 : Int32) (0 : Int32) 0 (by decide))
                  (first | have := sp_addx (8 : Int32) ((3 : Int32) * 0) (by omega) | obtain ⟨k120, hk120⟩ := sp_add (8 : Int32) ((3 : Int32) * 0))
                  have : (1 : Int32).toInt = 1 := (by decide)
                  (first | have := sp_addx ((8 : Int32) + ((3 : Int32) * 0)) (1 : Int32) (by omega) | obtain ⟨k121, hk121⟩ := sp_add ((8 : Int32) + ((3 : Int32) * 0)) (1 : Int32))
                  exact gr (by omega) (by omega)
                refine ok_let (fun v135 ev135 => ?_)
                have : (8 : Int32).toInt = 8 := (by decide)
                have : (3 : Int32).toInt = 3 := (by decide)
                have : (0 : Int32).toInt = 0 := (by decide)
                (first | have := sp_mulcx (3 : Int32) (0 : Int32) 0 (by decide) (by omega) | obtain ⟨k122, hk122⟩ := sp_mulc (3 : Int32) (0 : Int32) 0 (by decide))
                (first | have := sp_addx (8 : Int32) ((3 : Int32) * 0) (by omega) | obtain ⟨k123, hk123⟩ := sp_add (8 : Int32) ((3 : Int32) * 0))
                have : (1 : Int32).toInt = 1 := (by decide)
                (first | have := sp_addx ((8 : Int32) + ((3 : Int32) * 0)) (1 : Int32) (by omega) | obtain ⟨k124, hk124⟩ := sp_add ((8 : Int32) + ((3 : Int32) * 0)) (1 : Int32))
                have hI_v135 : IM v135 := by
                  rw [ev135]
                  first | exact hI_v133.um7 (by omega) (by omega) | exact hI_v133.u07
                have := i_eq (show v135 30 0 8 = v133 30 0 8 by rw [ev135]; exact up3_t (by decide))
                have := i_eq (show v135 30 0 11 = v133 30 0 11 by rw [ev135]; exact up3_t (by decide))
                have := i_eq (show v135 30 0 12 = v133 30 0 12 by rw [ev135]; exact up3_t (by decide))
                (try have := i_eq (show v135 37 0 3 = v133 37 0 3 by rw [ev135]; exact up3_j (tcne (by omega) (by omega))))
                (try have := i_eq (show v135 37 0 4 = v133 37 0 4 by rw [ev135]; exact up3_j (tcne (by omega) (by omega))))
                have : ((v135 36 0 3).toInt = 0 ∧ (v135 36 0 4).toInt = 0) ∨ (0 < (v135 36 0 3).toInt ∧ 0 < (v135 36 0 4).toInt) := hI_v135.2.1
                refine ok_grd _ ?_ ?_
                · skip
                  have : (8 : Int32).toInt = 8 := (by decide)
                  have : (3 : Int32).toInt = 3 := (by decide)
                  have : (0 : Int32).toInt = 0 := (by decide)
                  (first | have := sp_mulcx (3 : Int32) (0 : Int32) 0 (by decide) (by omega) | obtain ⟨k125, hk125⟩ := sp_mulc (3 : Int32) (0 : Int32) 0 (by decide))
                  (first | have := sp_addx (8 : Int32) ((3 : Int32) * 0) (by omega) | obtain ⟨k126, hk126⟩ := sp_add (8 : Int32) ((3 : Int32) * 0))
                  have : (2 : Int32).toInt = 2 := (by decide)
                  (first | have := sp_addx ((8 : Int32) + ((3 : Int32) * 0)) (2 : Int32) (by omega) | obtain ⟨k127, hk127⟩ := sp_add ((8 : Int32) + ((3 : Int32) * 0)) (2 : Int32))
                  exact gr (by omega) (by omega)
                refine ok_let (fun v137 ev137 => ?_)
                have : (8 : Int32).toInt = 8 := (by decide)
                have : (3 : Int32).toInt = 3 := (by decide)
                have : (0 : Int32).toInt = 0 := (by decide)
                (first | have := sp_mulcx (3 : Int32) (0 : Int32) 0 (by decide) (by omega) | obtain ⟨k128, hk128⟩ := sp_mulc (3 : Int32) (0 : Int32) 0 (by decide))
                (first | have := sp_addx (8 : Int32) ((3 : Int32) * 0) (by omega) | obtain ⟨k129, hk129⟩ := sp_add (8 : Int32) ((3 : Int32) * 0))
                have : (2 : Int32).toInt = 2 := (by decide)
                (first | have := sp_addx ((8 : Int32) + ((3 : Int32) * 0)) (2 : Int32) (by omega) | obtain ⟨k130, hk130⟩ := sp_add ((8 : Int32) + ((3 : Int32) * 0)) (2 : Int32))
                have : (97 : Int32).toInt = 97 := (by decide)
                have := i_bd r122
                (first | have := sp_subx r122 (97 : Int32) (by omega) | obtain ⟨k131, hk131⟩ := sp_sub r122 (97 : Int32))
                have hI_v137 : IM v137 := by
                  rw [ev137]
                  first | exact hI_v135.um7 (by omega) (by omega) | exact hI_v135.u07
                have := i_eq (show v137 30 0 8 = v135 30 0 8 by rw [ev137]; exact up3_t (by decide))
                have := i_eq (show v137 30 0 11 = v135 30 0 11 by rw [ev137]; exact up3_t (by decide))
                have := i_eq (show v137 30 0 12 = v135 30 0 12 by rw [ev137]; exact up3_t (by decide))
                (try have := i_eq (show v137 37 0 3 = v135 37 0 3 by rw [ev137]; exact up3_j (tcne (by omega) (by omega))))
                (try have := i_eq (show v137 37 0 4 = v135 37 0 4 by rw [ev137]; exact up3_j (tcne (by omega) (by omega))))
                have : ((v137 36 0 3).toInt = 0 ∧ (v137 36 0 4).toInt = 0) ∨ (0 < (v137 36 0 3).toInt ∧ 0 < (v137 36 0 4).toInt) := hI_v137.2.1
                refine ok_let (fun v138 ev138 => ?_)
                have hI_v138 : IM v138 := by
                  rw [ev138]
                  refine hI_v137.upo (by decide) ?_
                  show (0 : Int) ≤ Int32.toInt ((v137 37 0 3) + 1) ∧ Int32.toInt ((v137 37 0 3) + 1) ≤ (6 : Int)
                  have : (0 : Int) ≤ (v137 37 0 3).toInt ∧ (v137 37 0 3).toInt ≤ (6 : Int) := hI_v137.1 37 0 3
                  have : (1 : Int32).toInt = 1 := (by decide)
                  have := i_bd (v137 37 0 3)
                  (first | have := sp_addx (v137 37 0 3) (1 : Int32) (by omega) | obtain ⟨k132, hk132⟩ := sp_add (v137 37 0 3) (1 : Int32))
                  omega
                have := i_eq (show v138 30 0 8 = v137 30 0 8 by rw [ev138]; exact up3_t (by decide))
                have := i_eq (show v138 30 0 11 = v137 30 0 11 by rw [ev138]; exact up3_t (by decide))
                have := i_eq (show v138 30 0 12 = v137 30 0 12 by rw [ev138]; exact up3_t (by decide))
                have := i_eq (show v138 37 0 3 = ((v137 37 0 3) + 1) by rw [ev138]; exact up3_s)
                have : (0 : Int) ≤ (v137 37 0 3).toInt ∧ (v137 37 0 3).toInt ≤ (6 : Int) := hI_v137.1 37 0 3
                have : (1 : Int32).toInt = 1 := (by decide)
                have := i_bd (v137 37 0 3)
                (first | have := sp_addx (v137 37 0 3) (1 : Int32) (by omega) | obtain ⟨k133, hk133⟩ := sp_add (v137 37 0 3) (1 : Int32))
                have := i_eq (show v138 37 0 4 = v137 37 0 4 by rw [ev138]; exact up3_j (by decide))
                have : ((v138 36 0 3).toInt = 0 ∧ (v138 36 0 4).toInt = 0) ∨ (0 < (v138 36 0 3).toInt ∧ 0 < (v138 36 0 4).toInt) := hI_v138.2.1
                refine ok_some ?_
                show IM v138 ∧ (Int32.toInt (v138 37 0 4) = Int32.toInt (v 37 0 4)) ∧ ((Int32.toInt (v 30 0 8) < 0 ∧ Int32.toInt (v138 37 0 3) = Int32.toInt (v 37 0 3) + 1) ∨ 0 ≤ Int32.toInt (v138 30 0 8))
                refine ⟨hI_v138, ?_⟩
                omega
            · skip
              have ic124 := i_ne c124
              have : (0 : Int) ≤ (v123 30 0 11).toInt ∧ (v123 30 0 11).toInt ≤ (5 : Int) := hI_v123.1 30 0 11
              have : (4 : Int32).toInt = 4 := (by decide)
              refine ok_kb2 (k_X8_takes v123 hI_v123 0 1 ) (fun r140 v141 hr140 => ?_)
              have hr140 : IM v141 ∧ (Int32.toInt (v141 37 0 3) = Int32.toInt (v123 37 0 3)) ∧ (Int32.toInt (v141 37 0 4) = Int32.toInt (v123 37 0 4)) ∧ (Int32.toInt (v123 30 0 8) < 0 ∨ 0 ≤ Int32.toInt (v141 30 0 8)) ∧ (¬ Int32.toInt 0 = 0 ∨ 0 ≤ Int32.toInt (v141 30 0 8)) ∧ (Int32.toInt r140 = 0 ∨ (Int32.toInt r140 = Int32.toInt (v123 30 0 12) ∧ ¬ Int32.toInt 0 = 0)) := hr140
              obtain ⟨hI_v141, hr140⟩ := hr140
              have : ((v141 36 0 3).toInt = 0 ∧ (v141 36 0 4).toInt = 0) ∨ (0 < (v141 36 0 3).toInt ∧ 0 < (v141 36 0 4).toInt) := hI_v141.2.1
              have : (0 : Int) ≤ (v123 37 0 3).toInt ∧ (v123 37 0 3).toInt ≤ (6 : Int) := hI_v123.1 37 0 3
              have : (0 : Int) ≤ (v123 37 0 4).toInt ∧ (v123 37 0 4).toInt ≤ (4 : Int) := hI_v123.1 37 0 4
              have : (-1 : Int) ≤ (v123 30 0 8).toInt ∧ (v123 30 0 8).toInt ≤ (100 : Int) := hI_v123.1 30 0 8
              have : (0 : Int32).toInt = 0 := (by decide)
              have : (1 : Int32).toInt = 1 := (by decide)
              refine ok_bind (k_X8_isWell v141 hI_v141  ) (fun r143 hr143 => ?_)
              have hr143 : (0 : Int) ≤ Int32.toInt r143 ∧ Int32.toInt r143 ≤ (1 : Int) ∧ ((Int32.toInt r143 = 0 ∧ 0 ≤ Int32.toInt (v141 30 0 8)) ∨ (Int32.toInt r143 = 1 ∧ Int32.toInt (v141 30 0 8) < 0)) := hr143
              have : (-1 : Int) ≤ (v141 30 0 8).toInt ∧ (v141 30 0 8).toInt ≤ (100 : Int) := hI_v141.1 30 0 8
              refine ok_ite _ (fun c145 => ?_) (fun c145 => ?_)
              · skip
                have ic145 := i_eq c145
                have : (0 : Int32).toInt = 0 := (by decide)
                refine ok_some ?_
                show IM v141 ∧ (Int32.toInt (v141 37 0 4) = Int32.toInt (v 37 0 4)) ∧ ((Int32.toInt (v 30 0 8) < 0 ∧ Int32.toInt (v141 37 0 3) = Int32.toInt (v 37 0 3) + 1) ∨ 0 ≤ Int32.toInt (v141 30 0 8))
                refine ⟨hI_v141, ?_⟩
                omega
              · skip
                have ic145 := i_ne c145
                have : (0 : Int32).toInt = 0 := (by decide)
                refine ok_grd _ ?_ ?_
                · skip
                  have : (8 : Int32).toInt = 8 := (by decide)
                  have : (3 : Int32).toInt = 3 := (by decide)
                  have : (0 : Int32).toInt = 0 := (by decide)
                  (first | have := sp_mulcx (3 : Int32) (0 : Int32) 0 (by decide) (by omega) | obtain ⟨k134, hk134⟩ := sp_mulc (3 : Int32) (0 : Int32) 0 (by decide))
                  (first | have := sp_addx (8 : Int32) ((3 : Int32) * 0) (by omega) | obtain ⟨k135, hk135⟩ := sp_add (8 : Int32) ((3 : Int32) * 0))
                  exact gr (by omega) (by omega)
                refine ok_let (fun v147 ev147 => ?_)
                have : (8 : Int32).toInt = 8 := (by decide)
                have : (3 : Int32).toInt = 3 := (by decide)
                have : (0 : Int32).toInt = 0 := (by decide)
                (first | have := sp_mulcx (3 : Int32) (0 : Int32) 0 (by decide) (by omega) | obtain ⟨k136, hk136⟩ := sp_mulc (3 : Int32) (0 : Int32) 0 (by decide))
                (first | have := sp_addx (8 : Int32) ((3 : Int32) * 0) (by omega) | obtain ⟨k137, hk137⟩ := sp_add (8 : Int32) ((3 : Int32) * 0))
                have hI_v147 : IM v147 := by
                  rw [ev147]
                  first | exact hI_v141.um7 (by omega) (by omega) | exact hI_v141.u07
                have := i_eq (show v147 30 0 8 = v141 30 0 8 by rw [ev147]; exact up3_t (by decide))
                have := i_eq (show v147 30 0 11 = v141 30 0 11 by rw [ev147]; exact up3_t (by decide))
                have := i_eq (show v147 30 0 12 = v141 30 0 12 by rw [ev147]; exact up3_t (by decide))
                (try have := i_eq (show v147 37 0 3 = v141 37 0 3 by rw [ev147]; exact up3_j (tcne (by omega) (by omega))))
                (try have := i_eq (show v147 37 0 4 = v141 37 0 4 by rw [ev147]; exact up3_j (tcne (by omega) (by omega))))
                have : ((v147 36 0 3).toInt = 0 ∧ (v147 36 0 4).toInt = 0) ∨ (0 < (v147 36 0 3).toInt ∧ 0 < (v147 36 0 4).toInt) := hI_v147.2.1
                refine ok_grd _ ?_ ?_
                · skip
                  have : (8 : Int32).toInt = 8 := (by decide)
                  have : (3 : Int32).toInt = 3 := (by decide)
                  have : (0 : Int32).toInt = 0 := (by decide)
                  (first | have := sp_mulcx (3 : Int32) (0 : Int32) 0 (by decide) (by omega) | obtain ⟨k138, hk138⟩ := sp_mulc (3 : Int32) (0 : Int32) 0 (by decide))
                  (first | have := sp_addx (8 : Int32) ((3 : Int32) * 0) (by omega) | obtain ⟨k139, hk139⟩ := sp_add (8 : Int32) ((3 : Int32) * 0))
                  have : (1 : Int32).toInt = 1 := (by decide)
                  (first | have := sp_addx ((8 : Int32) + ((3 : Int32) * 0)) (1 : Int32) (by omega) | obtain ⟨k140, hk140⟩ := sp_add ((8 : Int32) + ((3 : Int32) * 0)) (1 : Int32))
                  exact gr (by omega) (by omega)
                refine ok_let (fun v149 ev149 => ?_)
                have : (8 : Int32).toInt = 8 := (by decide)
                have : (3 : Int32).toInt = 3 := (by decide)
                have : (0 : Int32).toInt = 0 := (by decide)
                (first | have := sp_mulcx (3 : Int32) (0 : Int32) 0 (by decide) (by omega) | obtain ⟨k141, hk141⟩ := sp_mulc (3 : Int32) (0 : Int32) 0 (by decide))
                (first | have := sp_addx (8 : Int32) ((3 : Int32) * 0) (by omega) | obtain ⟨k142, hk142⟩ := sp_add (8 : Int32) ((3 : Int32) * 0))
                have : (1 : Int32).toInt = 1 := (by decide)
                (first | have := sp_addx ((8 : Int32) + ((3 : Int32) * 0)) (1 : Int32) (by omega) | obtain ⟨k143, hk143⟩ := sp_add ((8 : Int32) + ((3 : Int32) * 0)) (1 : Int32))
                have hI_v149 : IM v149 := by
                  rw [ev149]
                  first | exact hI_v147.um7 (by omega) (by omega) | exact hI_v147.u07
                have := i_eq (show v149 30 0 8 = v147 30 0 8 by rw [ev149]; exact up3_t (by decide))
                have := i_eq (show v149 30 0 11 = v147 30 0 11 by rw [ev149]; exact up3_t (by decide))
                have := i_eq (show v149 30 0 12 = v147 30 0 12 by rw [ev149]; exact up3_t (by decide))
                (try have := i_eq (show v149 37 0 3 = v147 37 0 3 by rw [ev149]; exact up3_j (tcne (by omega) (by omega))))
                (try have := i_eq (show v149 37 0 4 = v147 37 0 4 by rw [ev149]; exact up3_j (tcne (by omega) (by omega))))
                have : ((v149 36 0 3).toInt = 0 ∧ (v149 36 0 4).toInt = 0) ∨ (0 < (v149 36 0 3).toInt ∧ 0 < (v149 36 0 4).toInt) := hI_v149.2.1
                refine ok_grd _ ?_ ?_
                · skip
                  have : (8 : Int32).toInt = 8 := (by decide)
                  have : (3 : Int32).toInt = 3 := (by decide)
                  have : (0 : Int32).toInt = 0 := (by decide)
                  (first | have := sp_mulcx (3 : Int32) (0 : Int32) 0 (by decide) (by omega) | obtain ⟨k144, hk144⟩ := sp_mulc (3 : Int32) (0 : Int32) 0 (by decide))
                  (first | have := sp_addx (8 : Int32) ((3 : Int32) * 0) (by omega) | obtain ⟨k145, hk145⟩ := sp_add (8 : Int32) ((3 : Int32) * 0))
                  have : (2 : Int32).toInt = 2 := (by decide)
                  (first | have := sp_addx ((8 : Int32) + ((3 : Int32) * 0)) (2 : Int32) (by omega) | obtain ⟨k146, hk146⟩ := sp_add ((8 : Int32) + ((3 : Int32) * 0)) (2 : Int32))
                  exact gr (by omega) (by omega)
                refine ok_let (fun v151 ev151 => ?_)
                have : (8 : Int32).toInt = 8 := (by decide)
                have : (3 : Int32).toInt = 3 := (by decide)
                have : (0 : Int32).toInt = 0 := (by decide)
                (first | have := sp_mulcx (3 : Int32) (0 : Int32) 0 (by decide) (by omega) | obtain ⟨k147, hk147⟩ := sp_mulc (3 : Int32) (0 : Int32) 0 (by decide))
                (first | have := sp_addx (8 : Int32) ((3 : Int32) * 0) (by omega) | obtain ⟨k148, hk148⟩ := sp_add (8 : Int32) ((3 : Int32) * 0))
                have : (2 : Int32).toInt = 2 := (by decide)
                (first | have := sp_addx ((8 : Int32) + ((3 : Int32) * 0)) (2 : Int32) (by omega) | obtain ⟨k149, hk149⟩ := sp_add ((8 : Int32) + ((3 : Int32) * 0)) (2 : Int32))
                have : (97 : Int32).toInt = 97 := (by decide)
                have := i_bd r122
                (first | have := sp_subx r122 (97 : Int32) (by omega) | obtain ⟨k150, hk150⟩ := sp_sub r122 (97 : Int32))
                have hI_v151 : IM v151 := by
                  rw [ev151]
                  first | exact hI_v149.um7 (by omega) (by omega) | exact hI_v149.u07
                have := i_eq (show v151 30 0 8 = v149 30 0 8 by rw [ev151]; exact up3_t (by decide))
                have := i_eq (show v151 30 0 11 = v149 30 0 11 by rw [ev151]; exact up3_t (by decide))
                have := i_eq (show v151 30 0 12 = v149 30 0 12 by rw [ev151]; exact up3_t (by decide))
                (try have := i_eq (show v151 37 0 3 = v149 37 0 3 by rw [ev151]; exact up3_j (tcne (by omega) (by omega))))
                (try have := i_eq (show v151 37 0 4 = v149 37 0 4 by rw [ev151]; exact up3_j (tcne (by omega) (by omega))))
                have : ((v151 36 0 3).toInt = 0 ∧ (v151 36 0 4).toInt = 0) ∨ (0 < (v151 36 0 3).toInt ∧ 0 < (v151 36 0 4).toInt) := hI_v151.2.1
                refine ok_let (fun v152 ev152 => ?_)
                have hI_v152 : IM v152 := by
                  rw [ev152]
                  refine hI_v151.upo (by decide) ?_
                  show (0 : Int) ≤ Int32.toInt ((v151 37 0 3) + 1) ∧ Int32.toInt ((v151 37 0 3) + 1) ≤ (6 : Int)
                  have : (0 : Int) ≤ (v151 37 0 3).toInt ∧ (v151 37 0 3).toInt ≤ (6 : Int) := hI_v151.1 37 0 3
                  have : (1 : Int32).toInt = 1 := (by decide)
                  have := i_bd (v151 37 0 3)
                  (first | have := sp_addx (v151 37 0 3) (1 : Int32) (by omega) | obtain ⟨k151, hk151⟩ := sp_add (v151 37 0 3) (1 : Int32))
                  omega
                have := i_eq (show v152 30 0 8 = v151 30 0 8 by rw [ev152]; exact up3_t (by decide))
                have := i_eq (show v152 30 0 11 = v151 30 0 11 by rw [ev152]; exact up3_t (by decide))
                have := i_eq (show v152 30 0 12 = v151 30 0 12 by rw [ev152]; exact up3_t (by decide))
                have := i_eq (show v152 37 0 3 = ((v151 37 0 3) + 1) by rw [ev152]; exact up3_s)
                have : (0 : Int) ≤ (v151 37 0 3).toInt ∧ (v151 37 0 3).toInt ≤ (6 : Int) := hI_v151.1 37 0 3
                have : (1 : Int32).toInt = 1 := (by decide)
                have := i_bd (v151 37 0 3)
                (first | have := sp_addx (v151 37 0 3) (1 : Int32) (by omega) | obtain ⟨k152, hk152⟩ := sp_add (v151 37 0 3) (1 : Int32))
                have := i_eq (show v152 37 0 4 = v151 37 0 4 by rw [ev152]; exact up3_j (by decide))
                have : ((v152 36 0 3).toInt = 0 ∧ (v152 36 0 4).toInt = 0) ∨ (0 < (v152 36 0 3).toInt ∧ 0 < (v152 36 0 4).toInt) := hI_v152.2.1
                refine ok_some ?_
                show IM v152 ∧ (Int32.toInt (v152 37 0 4) = Int32.toInt (v 37 0 4)) ∧ ((Int32.toInt (v 30 0 8) < 0 ∧ Int32.toInt (v152 37 0 3) = Int32.toInt (v 37 0 3) + 1) ∨ 0 ≤ Int32.toInt (v152 30 0 8))
                refine ⟨hI_v152, ?_⟩
                omega
        · skip
          have ic84 := i_ne c84
          have : (0 : Int) ≤ (v11 30 0 11).toInt ∧ (v11 30 0 11).toInt ≤ (5 : Int) := hI_v11.1 30 0 11
          have : (1 : Int32).toInt = 1 := (by decide)
          refine ok_kb2 (k_X8_takes v11 hI_v11 0 1 ) (fun r154 v155 hr154 => ?_)
          have hr154 : IM v155 ∧ (Int32.toInt (v155 37 0 3) = Int32.toInt (v11 37 0 3)) ∧ (Int32.toInt (v155 37 0 4) = Int32.toInt (v11 37 0 4)) ∧ (Int32.toInt (v11 30 0 8) < 0 ∨ 0 ≤ Int32.toInt (v155 30 0 8)) ∧ (¬ Int32.toInt 0 = 0 ∨ 0 ≤ Int32.toInt (v155 30 0 8)) ∧ (Int32.toInt r154 = 0 ∨ (Int32.toInt r154 = Int32.toInt (v11 30 0 12) ∧ ¬ Int32.toInt 0 = 0)) := hr154
          obtain ⟨hI_v155, hr154⟩ := hr154
          have : ((v155 36 0 3).toInt = 0 ∧ (v155 36 0 4).toInt = 0) ∨ (0 < (v155 36 0 3).toInt ∧ 0 < (v155 36 0 4).toInt) := hI_v155.2.1
          have : (0 : Int) ≤ (v11 37 0 3).toInt ∧ (v11 37 0 3).toInt ≤ (6 : Int) := hI_v11.1 37 0 3
          have : (0 : Int) ≤ (v11 37 0 4).toInt ∧ (v11 37 0 4).toInt ≤ (4 : Int) := hI_v11.1 37 0 4
          have : (-1 : Int) ≤ (v11 30 0 8).toInt ∧ (v11 30 0 8).toInt ≤ (100 : Int) := hI_v11.1 30 0 8
          have : (0 : Int32).toInt = 0 := (by decide)
          have : (1 : Int32).toInt = 1 := (by decide)
          refine ok_bind (k_X8_isTold v155 hI_v155 r7 r10 ((v155 30 0 12) - 97) ) (fun r157 hr157 => ?_)
          have hr157 : (0 : Int) ≤ Int32.toInt r157 ∧ Int32.toInt r157 ≤ (1 : Int) := hr157
          refine ok_ite _ (fun c159 => ?_) (fun c159 => ?_)
          · skip
            have ic159 := i_eq c159
            have : (0 : Int32).toInt = 0 := (by decide)
            refine ok_kb2 (k_X8_takes v155 hI_v155 1 2 ) (fun r161 v162 hr161 => ?_)
            have hr161 : IM v162 ∧ (Int32.toInt (v162 37 0 3) = Int32.toInt (v155 37 0 3)) ∧ (Int32.toInt (v162 37 0 4) = Int32.toInt (v155 37 0 4)) ∧ (Int32.toInt (v155 30 0 8) < 0 ∨ 0 ≤ Int32.toInt (v162 30 0 8)) ∧ (¬ Int32.toInt 1 = 0 ∨ 0 ≤ Int32.toInt (v162 30 0 8)) ∧ (Int32.toInt r161 = 0 ∨ (Int32.toInt r161 = Int32.toInt (v155 30 0 12) ∧ ¬ Int32.toInt 1 = 0)) := hr161
            obtain ⟨hI_v162, hr161⟩ := hr161
            have : ((v162 36 0 3).toInt = 0 ∧ (v162 36 0 4).toInt = 0) ∨ (0 < (v162 36 0 3).toInt ∧ 0 < (v162 36 0 4).toInt) := hI_v162.2.1
            have : (0 : Int) ≤ (v155 37 0 3).toInt ∧ (v155 37 0 3).toInt ≤ (6 : Int) := hI_v155.1 37 0 3
            have : (0 : Int) ≤ (v155 37 0 4).toInt ∧ (v155 37 0 4).toInt ≤ (4 : Int) := hI_v155.1 37 0 4
            have : (-1 : Int) ≤ (v155 30 0 8).toInt ∧ (v155 30 0 8).toInt ≤ (100 : Int) := hI_v155.1 30 0 8
            have : (1 : Int32).toInt = 1 := (by decide)
            have : (2 : Int32).toInt = 2 := (by decide)
            refine ok_ite _ (fun c163 => ?_) (fun c163 => ?_)
            · skip
              have ic163 := i_eq c163
              have : (0 : Int) ≤ (v162 30 0 11).toInt ∧ (v162 30 0 11).toInt ≤ (5 : Int) := hI_v162.1 30 0 11
              have : (4 : Int32).toInt = 4 := (by decide)
              refine ok_kb2 (k_X8_takes v162 hI_v162 1 1 ) (fun r165 v166 hr165 => ?_)
              have hr165 : IM v166 ∧ (Int32.toInt (v166 37 0 3) = Int32.toInt (v162 37 0 3)) ∧ (Int32.toInt (v166 37 0 4) = Int32.toInt (v162 37 0 4)) ∧ (Int32.toInt (v162 30 0 8) < 0 ∨ 0 ≤ Int32.toInt (v166 30 0 8)) ∧ (¬ Int32.toInt 1 = 0 ∨ 0 ≤ Int32.toInt (v166 30 0 8)) ∧ (Int32.toInt r165 = 0 ∨ (Int32.toInt r165 = Int32.toInt (v162 30 0 12) ∧ ¬ Int32.toInt 1 = 0)) := hr165
              obtain ⟨hI_v166, hr165⟩ := hr165
              have : ((v166 36 0 3).toInt = 0 ∧ (v166 36 0 4).toInt = 0) ∨ (0 < (v166 36 0 3).toInt ∧ 0 < (v166 36 0 4).toInt) := hI_v166.2.1
              have : (0 : Int) ≤ (v162 37 0 3).toInt ∧ (v162 37 0 3).toInt ≤ (6 : Int) := hI_v162.1 37 0 3
              have : (0 : Int) ≤ (v162 37 0 4).toInt ∧ (v162 37 0 4).toInt ≤ (4 : Int) := hI_v162.1 37 0 4
              have : (-1 : Int) ≤ (v162 30 0 8).toInt ∧ (v162 30 0 8).toInt ≤ (100 : Int) := hI_v162.1 30 0 8
              have : (1 : Int32).toInt = 1 := (by decide)
              refine ok_bind (k_X8_isWell v166 hI_v166  ) (fun r168 hr168 => ?_)
              have hr168 : (0 : Int) ≤ Int32.toInt r168 ∧ Int32.toInt r168 ≤ (1 : Int) ∧ ((Int32.toInt r168 = 0 ∧ 0 ≤ Int32.toInt (v166 30 0 8)) ∨ (Int32.toInt r168 = 1 ∧ Int32.toInt (v166 30 0 8) < 0)) := hr168
              have : (-1 : Int) ≤ (v166 30 0 8).toInt ∧ (v166 30 0 8).toInt ≤ (100 : Int) := hI_v166.1 30 0 8
              refine ok_ite _ (fun c170 => ?_) (fun c170 => ?_)
              · skip
                have ic170 := i_eq c170
                have : (0 : Int32).toInt = 0 := (by decide)
                refine ok_some ?_
                show IM v166 ∧ (Int32.toInt (v166 37 0 4) = Int32.toInt (v 37 0 4)) ∧ ((Int32.toInt (v 30 0 8) < 0 ∧ Int32.toInt (v166 37 0 3) = Int32.toInt (v 37 0 3) + 1) ∨ 0 ≤ Int32.toInt (v166 30 0 8))
                refine ⟨hI_v166, ?_⟩
                omega
              · skip
                have ic170 := i_ne c170
                have : (0 : Int32).toInt = 0 := (by decide)
                refine ok_grd _ ?_ ?_
                · skip
                  have : (8 : Int32).toInt = 8 := (by decide)
                  have : (3 : Int32).toInt = 3 := (by decide)
                  have : (0 : Int32).toInt = 0 := (by decide)
                  (first | have := sp_mulcx (3 : Int32) (0 : Int32) 0 (by decide) (by omega) | obtain ⟨k153, hk153⟩ := sp_mulc (3 : Int32) (0 : Int32) 0 (by decide))
                  (first | have := sp_addx (8 : Int32) ((3 : Int32) * 0) (by omega) | obtain ⟨k154, hk154⟩ := sp_add (8 : Int32) ((3 : Int32) * 0))
                  exact gr (by omega) (by omega)
                refine ok_let (fun v172 ev172 => ?_)
                have : (8 : Int32).toInt = 8 := (by decide)
                have : (3 : Int32).toInt = 3 := (by decide)
                have : (0 : Int32).toInt = 0 := (by decide)
                (first | have := sp_mulcx (3 : Int32) (0 : Int32) 0 (by decide) (by omega) | obtain ⟨k155, hk155⟩ := sp_mulc (3 : Int32) (0 : Int32) 0 (by decide))
                (first | have := sp_addx (8 : Int32) ((3 : Int32) * 0) (by omega) | obtain ⟨k156, hk156⟩ := sp_add (8 : Int32) ((3 : Int32) * 0))
                have hI_v172 : IM v172 := by
                  rw [ev172]
                  first | exact hI_v166.um7 (by omega) (by omega) | exact hI_v166.u07
                have := i_eq (show v172 30 0 8 = v166 30 0 8 by rw [ev172]; exact up3_t (by decide))
                have := i_eq (show v172 30 0 11 = v166 30 0 11 by rw [ev172]; exact up3_t (by decide))
                have := i_eq (show v172 30 0 12 = v166 30 0 12 by rw [ev172]; exact up3_t (by decide))
                (try have := i_eq (show v172 37 0 3 = v166 37 0 3 by rw [ev172]; exact up3_j (tcne (by omega) (by omega))))
                (try have := i_eq (show v172 37 0 4 = v166 37 0 4 by rw [ev172]; exact up3_j (tcne (by omega) (by omega))))
                have : ((v172 36 0 3).toInt = 0 ∧ (v172 36 0 4).toInt = 0) ∨ (0 < (v172 36 0 3).toInt ∧ 0 < (v172 36 0 4).toInt) := hI_v172.2.1
                refine ok_grd _ ?_ ?_
                · skip
                  have : (8 : Int32).toInt = 8 := (by decide)
                  have : (3 : Int32).toInt = 3 := (by decide)
                  have : (0 : Int32).toInt = 0 := (by decide)
                  (first | have := sp_mulcx (3 : Int32) (0 : Int32) 0 (by decide) (by omega) | obtain ⟨k157, hk157⟩ := sp_mulc (3 : Int32) (0 : Int32) 0 (by decide))
                  (first | have := sp_addx (8 : Int32) ((3 : Int32) * 0) (by omega) | obtain ⟨k158, hk158⟩ := sp_add (8 : Int32) ((3 : Int32) * 0))
                  have : (1 : Int32).toInt = 1 := (by decide)
                  (first | have := sp_addx ((8 : Int32) + ((3 : Int32) * 0)) (1 : Int32) (by omega) | obtain ⟨k159, hk159⟩ := sp_add ((8 : Int32) + ((3 : Int32) * 0)) (1 : Int32))
                  exact gr (by omega) (by omega)
                refine ok_let (fun v174 ev174 => ?_)
                have : (8 : Int32).toInt = 8 := (by decide)
                have : (3 : Int32).toInt = 3 := (by decide)
                have : (0 : Int32).toInt = 0 := (by decide)
                (first | have := sp_mulcx (3 : Int32) (0 : Int32) 0 (by decide) (by omega) | obtain ⟨k160, hk160⟩ := sp_mulc (3 : Int32) (0 : Int32) 0 (by decide))
                (first | have := sp_addx (8 : Int32) ((3 : Int32) * 0) (by omega) | obtain ⟨k161, hk161⟩ := sp_add (8 : Int32) ((3 : Int32) * 0))
                have : (1 : Int32).toInt = 1 := (by decide)
                (first | have := sp_addx ((8 : Int32) + ((3 : Int32) * 0)) (1 : Int32) (by omega) | obtain ⟨k162, hk162⟩ := sp_add ((8 : Int32) + ((3 : Int32) * 0)) (1 : Int32))
                have hI_v174 : IM v174 := by
                  rw [ev174]
                  first | exact hI_v172.um7 (by omega) (by omega) | exact hI_v172.u07
                have := i_eq (show v174 30 0 8 = v172 30 0 8 by rw [ev174]; exact up3_t (by decide))
                have := i_eq (show v174 30 0 11 = v172 30 0 11 by rw [ev174]; exact up3_t (by decide))
                have := i_eq (show v174 30 0 12 = v172 30 0 12 by rw [ev174]; exact up3_t (by decide))
                (try have := i_eq (show v174 37 0 3 = v172 37 0 3 by rw [ev174]; exact up3_j (tcne (by omega) (by omega))))
                (try have := i_eq (show v174 37 0 4 = v172 37 0 4 by rw [ev174]; exact up3_j (tcne (by omega) (by omega))))
                have : ((v174 36 0 3).toInt = 0 ∧ (v174 36 0 4).toInt = 0) ∨ (0 < (v174 36 0 3).toInt ∧ 0 < (v174 36 0 4).toInt) := hI_v174.2.1
                refine ok_grd _ ?_ ?_
                · skip
                  have : (8 : Int32).toInt = 8 := (by decide)
                  have : (3 : Int32).toInt = 3 := (by decide)
                  have : (0 : Int32).toInt = 0 := (by decide)
                  (first | have := sp_mulcx (3 : Int32) (0 : Int32) 0 (by decide) (by omega) | obtain ⟨k163, hk163⟩ := sp_mulc (3 : Int32) (0 : Int32) 0 (by decide))
                  (first | have := sp_addx (8 : Int32) ((3 : Int32) * 0) (by omega) | obtain ⟨k164, hk164⟩ := sp_add (8 : Int32) ((3 : Int32) * 0))
                  have : (2 : Int32).toInt = 2 := (by decide)
                  (first | have := sp_addx ((8 : Int32) + ((3 : Int32) * 0)) (2 : Int32) (by omega) | obtain ⟨k165, hk165⟩ := sp_add ((8 : Int32) + ((3 : Int32) * 0)) (2 : Int32))
                  exact gr (by omega) (by omega)
                refine ok_let (fun v176 ev176 => ?_)
                have : (8 : Int32).toInt = 8 := (by decide)
                have : (3 : Int32).toInt = 3 := (by decide)
                have : (0 : Int32).toInt = 0 := (by decide)
                (first | have := sp_mulcx (3 : Int32) (0 : Int32) 0 (by decide) (by omega) | obtain ⟨k166, hk166⟩ := sp_mulc (3 : Int32) (0 : Int32) 0 (by decide))
                (first | have := sp_addx (8 : Int32) ((3 : Int32) * 0) (by omega) | obtain ⟨k167, hk167⟩ := sp_add (8 : Int32) ((3 : Int32) * 0))
                have : (2 : Int32).toInt = 2 := (by decide)
                (first | have := sp_addx ((8 : Int32) + ((3 : Int32) * 0)) (2 : Int32) (by omega) | obtain ⟨k168, hk168⟩ := sp_add ((8 : Int32) + ((3 : Int32) * 0)) (2 : Int32))
                have : (97 : Int32).toInt = 97 := (by decide)
                have := i_bd r161
                (first | have := sp_subx r161 (97 : Int32) (by omega) | obtain ⟨k169, hk169⟩ := sp_sub r161 (97 : Int32))
                have hI_v176 : IM v176 := by
                  rw [ev176]
                  first | exact hI_v174.um7 (by omega) (by omega) | exact hI_v174.u07
                have := i_eq (show v176 30 0 8 = v174 30 0 8 by rw [ev176]; exact up3_t (by decide))
                have := i_eq (show v176 30 0 11 = v174 30 0 11 by rw [ev176]; exact up3_t (by decide))
                have := i_eq (show v176 30 0 12 = v174 30 0 12 by rw [ev176]; exact up3_t (by decide))
                (try have := i_eq (show v176 37 0 3 = v174 37 0 3 by rw [ev176]; exact up3_j (tcne (by omega) (by omega))))
                (try have := i_eq (show v176 37 0 4 = v174 37 0 4 by rw [ev176]; exact up3_j (tcne (by omega) (by omega))))
                have : ((v176 36 0 3).toInt = 0 ∧ (v176 36 0 4).toInt = 0) ∨ (0 < (v176 36 0 3).toInt ∧ 0 < (v176 36 0 4).toInt) := hI_v176.2.1
                refine ok_let (fun v177 ev177 => ?_)
                have hI_v177 : IM v177 := by
                  rw [ev177]
                  refine hI_v176.upo (by decide) ?_
                  show (0 : Int) ≤ Int32.toInt ((v176 37 0 3) + 1) ∧ Int32.toInt ((v176 37 0 3) + 1) ≤ (6 : Int)
                  have : (0 : Int) ≤ (v176 37 0 3).toInt ∧ (v176 37 0 3).toInt ≤ (6 : Int) := hI_v176.1 37 0 3
                  have : (1 : Int32).toInt = 1 := (by decide)
                  have := i_bd (v176 37 0 3)
                  (first | have := sp_addx (v176 37 0 3) (1 : Int32) (by omega) | obtain ⟨k170, hk170⟩ := sp_add (v176 37 0 3) (1 : Int32))
                  omega
                have := i_eq (show v177 30 0 8 = v176 30 0 8 by rw [ev177]; exact up3_t (by decide))
                have := i_eq (show v177 30 0 11 = v176 30 0 11 by rw [ev177]; exact up3_t (by decide))
                have := i_eq (show v177 30 0 12 = v176 30 0 12 by rw [ev177]; exact up3_t (by decide))
                have := i_eq (show v177 37 0 3 = ((v176 37 0 3) + 1) by rw [ev177]; exact up3_s)
                have : (0 : Int) ≤ (v176 37 0 3).toInt ∧ (v176 37 0 3).toInt ≤ (6 : Int) := hI_v176.1 37 0 3
                have : (1 : Int32).toInt = 1 := (by decide)
                have := i_bd (v176 37 0 3)
                (first | have := sp_addx (v176 37 0 3) (1 : Int32) (by omega) | obtain ⟨k171, hk171⟩ := sp_add (v176 37 0 3) (1 : Int32))
                have := i_eq (show v177 37 0 4 = v176 37 0 4 by rw [ev177]; exact up3_j (by decide))
                have : ((v177 36 0 3).toInt = 0 ∧ (v177 36 0 4).toInt = 0) ∨ (0 < (v177 36 0 3).toInt ∧ 0 < (v177 36 0 4).toInt) := hI_v177.2.1
                refine ok_some ?_
                show IM v177 ∧ (Int32.toInt (v177 37 0 4) = Int32.toInt (v 37 0 4)) ∧ ((Int32.toInt (v 30 0 8) < 0 ∧ Int32.toInt (v177 37 0 3) = Int32.toInt (v 37 0 3) + 1) ∨ 0 ≤ Int32.toInt (v177 30 0 8))
                refine ⟨hI_v177, ?_⟩
                omega
            · skip
              have ic163 := i_ne c163
              have : (0 : Int) ≤ (v162 30 0 11).toInt ∧ (v162 30 0 11).toInt ≤ (5 : Int) := hI_v162.1 30 0 11
              have : (4 : Int32).toInt = 4 := (by decide)
              refine ok_kb2 (k_X8_takes v162 hI_v162 0 1 ) (fun r179 v180 hr179 => ?_)
              have hr179 : IM v180 ∧ (Int32.toInt (v180 37 0 3) = Int32.toInt (v162 37 0 3)) ∧ (Int32.toInt (v180 37 0 4) = Int32.toInt (v162 37 0 4)) ∧ (Int32.toInt (v162 30 0 8) < 0 ∨ 0 ≤ Int32.toInt (v180 30 0 8)) ∧ (¬ Int32.toInt 0 = 0 ∨ 0 ≤ Int32.toInt (v180 30 0 8)) ∧ (Int32.toInt r179 = 0 ∨ (Int32.toInt r179 = Int32.toInt (v162 30 0 12) ∧ ¬ Int32.toInt 0 = 0)) := hr179
              obtain ⟨hI_v180, hr179⟩ := hr179
              have : ((v180 36 0 3).toInt = 0 ∧ (v180 36 0 4).toInt = 0) ∨ (0 < (v180 36 0 3).toInt ∧ 0 < (v180 36 0 4).toInt) := hI_v180.2.1
              have : (0 : Int) ≤ (v162 37 0 3).toInt ∧ (v162 37 0 3).toInt ≤ (6 : Int) := hI_v162.1 37 0 3
              have : (0 : Int) ≤ (v162 37 0 4).toInt ∧ (v162 37 0 4).toInt ≤ (4 : Int) := hI_v162.1 37 0 4
              have : (-1 : Int) ≤ (v162 30 0 8).toInt ∧ (v162 30 0 8).toInt ≤ (100 : Int) := hI_v162.1 30 0 8
              have : (0 : Int32).toInt = 0 := (by decide)
              have : (1 : Int32).toInt = 1 := (by decide)
              refine ok_bind (k_X8_isWell v180 hI_v180  ) (fun r182 hr182 => ?_)
              have hr182 : (0 : Int) ≤ Int32.toInt r182 ∧ Int32.toInt r182 ≤ (1 : Int) ∧ ((Int32.toInt r182 = 0 ∧ 0 ≤ Int32.toInt (v180 30 0 8)) ∨ (Int32.toInt r182 = 1 ∧ Int32.toInt (v180 30 0 8) < 0)) := hr182
              have : (-1 : Int) ≤ (v180 30 0 8).toInt ∧ (v180 30 0 8).toInt ≤ (100 : Int) := hI_v180.1 30 0 8
              refine ok_ite _ (fun c184 => ?_) (fun c184 => ?_)
              · skip
                have ic184 := i_eq c184
                have : (0 : Int32).toInt = 0 := (by decide)
                refine ok_some ?_
                show IM v180 ∧ (Int32.toInt (v180 37 0 4) = Int32.toInt (v 37 0 4)) ∧ ((Int32.toInt (v 30 0 8) < 0 ∧ Int32.toInt (v180 37 0 3) = Int32.toInt (v 37 0 3) + 1) ∨ 0 ≤ Int32.toInt (v180 30 0 8))
                refine ⟨hI_v180, ?_⟩
                omega
              · skip
                have ic184 := i_ne c184
                have : (0 : Int32).toInt = 0 := (by decide)
                refine ok_grd _ ?_ ?_
                · skip
                  have : (8 : Int32).toInt = 8 := (by decide)
                  have : (3 : Int32).toInt = 3 := (by decide)
                  have : (0 : Int32).toInt = 0 := (by decide)
                  (first | have := sp_mulcx (3 : Int32) (0 : Int32) 0 (by decide) (by omega) | obtain ⟨k172, hk172⟩ := sp_mulc (3 : Int32) (0 : Int32) 0 (by decide))
                  (first | have := sp_addx (8 : Int32) ((3 : Int32) * 0) (by omega) | obtain ⟨k173, hk173⟩ := sp_add (8 : Int32) ((3 : Int32) * 0))
                  exact gr (by omega) (by omega)
                refine ok_let (fun v186 ev186 => ?_)
                have : (8 : Int32).toInt = 8 := (by decide)
                have : (3 : Int32).toInt = 3 := (by decide)
                have : (0 : Int32).toInt = 0 := (by decide)
                (first | have := sp_mulcx (3 : Int32) (0 : Int32) 0 (by decide) (by omega) | obtain ⟨k174, hk174⟩ := sp_mulc (3 : Int32) (0 : Int32) 0 (by decide))
                (first | have := sp_addx (8 : Int32) ((3 : Int32) * 0) (by omega) | obtain ⟨k175, hk175⟩ := sp_add (8 : Int32) ((3 : Int32) * 0))
                have hI_v186 : IM v186 := by
                  rw [ev186]
                  first | exact hI_v180.um7 (by omega) (by omega) | exact hI_v180.u07
                have := i_eq (show v186 30 0 8 = v180 30 0 8 by rw [ev186]; exact up3_t (by decide))
                have := i_eq (show v186 30 0 11 = v180 30 0 11 by rw [ev186]; exact up3_t (by decide))
                have := i_eq (show v186 30 0 12 = v180 30 0 12 by rw [ev186]; exact up3_t (by decide))
                (try have := i_eq (show v186 37 0 3 = v180 37 0 3 by rw [ev186]; exact up3_j (tcne (by omega) (by omega))))
                (try have := i_eq (show v186 37 0 4 = v180 37 0 4 by rw [ev186]; exact up3_j (tcne (by omega) (by omega))))
                have : ((v186 36 0 3).toInt = 0 ∧ (v186 36 0 4).toInt = 0) ∨ (0 < (v186 36 0 3).toInt ∧ 0 < (v186 36 0 4).toInt) := hI_v186.2.1
                refine ok_grd _ ?_ ?_
                · skip
                  have : (8 : Int32).toInt = 8 := (by decide)
                  have : (3 : Int32).toInt = 3 := (by decide)
                  have : (0 : Int32).toInt = 0 := (by decide)
                  (first | have := sp_mulcx (3 : Int32) (0 : Int32) 0 (by decide) (by omega) | obtain ⟨k176, hk176⟩ := sp_mulc (3 : Int32) (0 : Int32) 0 (by decide))
                  (first | have := sp_addx (8 : Int32) ((3 : Int32) * 0) (by omega) | obtain ⟨k177, hk177⟩ := sp_add (8 : Int32) ((3 : Int32) * 0))
                  have : (1 : Int32).toInt = 1 := (by decide)
                  (first | have := sp_addx ((8 : Int32) + ((3 : Int32) * 0)) (1 : Int32) (by omega) | obtain ⟨k178, hk178⟩ := sp_add ((8 : Int32) + ((3 : Int32) * 0)) (1 : Int32))
                  exact gr (by omega) (by omega)
                refine ok_let (fun v188 ev188 => ?_)
                have : (8 : Int32).toInt = 8 := (by decide)
                have : (3 : Int32).toInt = 3 := (by decide)
                have : (0 : Int32).toInt = 0 := (by decide)
                (first | have := sp_mulcx (3 : Int32) (0 : Int32) 0 (by decide) (by omega) | obtain ⟨k179, hk179⟩ := sp_mulc (3 : Int32) (0 : Int32) 0 (by decide))
                (first | have := sp_addx (8 : Int32) ((3 : Int32) * 0) (by omega) | obtain ⟨k180, hk180⟩ := sp_add (8 : Int32) ((3 : Int32) * 0))
                have : (1 : Int32).toInt = 1 := (by decide)
                (first | have := sp_addx ((8 : Int32) + ((3 : Int32) * 0)) (1 : Int32) (by omega) | obtain ⟨k181, hk181⟩ := sp_add ((8 : Int32) + ((3 : Int32) * 0)) (1 : Int32))
                have hI_v188 : IM v188 := by
                  rw [ev188]
                  first | exact hI_v186.um7 (by omega) (by omega) | exact hI_v186.u07
                have := i_eq (show v188 30 0 8 = v186 30 0 8 by rw [ev188]; exact up3_t (by decide))
                have := i_eq (show v188 30 0 11 = v186 30 0 11 by rw [ev188]; exact up3_t (by decide))
                have := i_eq (show v188 30 0 12 = v186 30 0 12 by rw [ev188]; exact up3_t (by decide))
                (try have := i_eq (show v188 37 0 3 = v186 37 0 3 by rw [ev188]; exact up3_j (tcne (by omega) (by omega))))
                (try have := i_eq (show v188 37 0 4 = v186 37 0 4 by rw [ev188]; exact up3_j (tcne (by omega) (by omega))))
                have : ((v188 36 0 3).toInt = 0 ∧ (v188 36 0 4).toInt = 0) ∨ (0 < (v188 36 0 3).toInt ∧ 0 < (v188 36 0 4).toInt) := hI_v188.2.1
                refine ok_grd _ ?_ ?_
                · skip
                  have : (8 : Int32).toInt = 8 := (by decide)
                  have : (3 : Int32).toInt = 3 := (by decide)
                  have : (0 : Int32).toInt = 0 := (by decide)
                  (first | have := sp_mulcx (3 : Int32) (0 : Int32) 0 (by decide) (by omega) | obtain ⟨k182, hk182⟩ := sp_mulc (3 : Int32) (0 : Int32) 0 (by decide))
                  (first | have := sp_addx (8 : Int32) ((3 : Int32) * 0) (by omega) | obtain ⟨k183, hk183⟩ := sp_add (8 : Int32) ((3 : Int32) * 0))
                  have : (2 : Int32).toInt = 2 := (by decide)
                  (first | have := sp_addx ((8 : Int32) + ((3 : Int32) * 0)) (2 : Int32) (by omega) | obtain ⟨k184, hk184⟩ := sp_add ((8 : Int32) + ((3 : Int32) * 0)) (2 : Int32))
                  exact gr (by omega) (by omega)
                refine ok_let (fun v190 ev190 => ?_)
                have : (8 : Int32).toInt = 8 := (by decide)
                have : (3 : Int32).toInt = 3 := (by decide)
                have : (0 : Int32).toInt = 0 := (by decide)
                (first | have := sp_mulcx (3 : Int32) (0 : Int32) 0 (by decide) (by omega) | obtain ⟨k185, hk185⟩ := sp_mulc (3 : Int32) (0 : Int32) 0 (by decide))
                (first | have := sp_addx (8 : Int32) ((3 : Int32) * 0) (by omega) | obtain ⟨k186, hk186⟩ := sp_add (8 : Int32) ((3 : Int32) * 0))
                have : (2 : Int32).toInt = 2 := (by decide)
                (first | have := sp_addx ((8 : Int32) + ((3 : Int32) * 0)) (2 : Int32) (by omega) | obtain ⟨k187, hk187⟩ := sp_add ((8 : Int32) + ((3 : Int32) * 0)) (2 : Int32))
                have : (97 : Int32).toInt = 97 := (by decide)
                have := i_bd r161
                (first | have := sp_subx r161 (97 : Int32) (by omega) | obtain ⟨k188, hk188⟩ := sp_sub r161 (97 : Int32))
                have hI_v190 : IM v190 := by
                  rw [ev190]
                  first | exact hI_v188.um7 (by omega) (by omega) | exact hI_v188.u07
                have := i_eq (show v190 30 0 8 = v188 30 0 8 by rw [ev190]; exact up3_t (by decide))
                have := i_eq (show v190 30 0 11 = v188 30 0 11 by rw [ev190]; exact up3_t (by decide))
                have := i_eq (show v190 30 0 12 = v188 30 0 12 by rw [ev190]; exact up3_t (by decide))
                (try have := i_eq (show v190 37 0 3 = v188 37 0 3 by rw [ev190]; exact up3_j (tcne (by omega) (by omega))))
                (try have := i_eq (show v190 37 0 4 = v188 37 0 4 by rw [ev190]; exact up3_j (tcne (by omega) (by omega))))
                have : ((v190 36 0 3).toInt = 0 ∧ (v190 36 0 4).toInt = 0) ∨ (0 < (v190 36 0 3).toInt ∧ 0 < (v190 36 0 4).toInt) := hI_v190.2.1
                refine ok_let (fun v191 ev191 => ?_)
                have hI_v191 : IM v191 := by
                  rw [ev191]
                  refine hI_v190.upo (by decide) ?_
                  show (0 : Int) ≤ Int32.toInt ((v190 37 0 3) + 1) ∧ Int32.toInt ((v190 37 0 3) + 1) ≤ (6 : Int)
                  have : (0 : Int) ≤ (v190 37 0 3).toInt ∧ (v190 37 0 3).toInt ≤ (6 : Int) := hI_v190.1 37 0 3
                  have : (1 : Int32).toInt = 1 := (by decide)
                  have := i_bd (v190 37 0 3)
                  (first | have := sp_addx (v190 37 0 3) (1 : Int32) (by omega) | obtain ⟨k189, hk189⟩ := sp_add (v190 37 0 3) (1 : Int32))
                  omega
                have := i_eq (show v191 30 0 8 = v190 30 0 8 by rw [ev191]; exact up3_t (by decide))
                have := i_eq (show v191 30 0 11 = v190 30 0 11 by rw [ev191]; exact up3_t (by decide))
                have := i_eq (show v191 30 0 12 = v190 30 0 12 by rw [ev191]; exact up3_t (by decide))
                have := i_eq (show v191 37 0 3 = ((v190 37 0 3) + 1) by rw [ev191]; exact up3_s)
                have : (0 : Int) ≤ (v190 37 0 3).toInt ∧ (v190 37 0 3).toInt ≤ (6 : Int) := hI_v190.1 37 0 3
                have : (1 : Int32).toInt = 1 := (by decide)
                have := i_bd (v190 37 0 3)
                (first | have := sp_addx (v190 37 0 3) (1 : Int32) (by omega) | obtain ⟨k190, hk190⟩ := sp_add (v190 37 0 3) (1 : Int32))
                have := i_eq (show v191 37 0 4 = v190 37 0 4 by rw [ev191]; exact up3_j (by decide))
                have : ((v191 36 0 3).toInt = 0 ∧ (v191 36 0 4).toInt = 0) ∨ (0 < (v191 36 0 3).toInt ∧ 0 < (v191 36 0 4).toInt) := hI_v191.2.1
                refine ok_some ?_
                show IM v191 ∧ (Int32.toInt (v191 37 0 4) = Int32.toInt (v 37 0 4)) ∧ ((Int32.toInt (v 30 0 8) < 0 ∧ Int32.toInt (v191 37 0 3) = Int32.toInt (v 37 0 3) + 1) ∨ 0 ≤ Int32.toInt (v191 30 0 8))
                refine ⟨hI_v191, ?_⟩
                omega
          · skip
            have ic159 := i_ne c159
            have : (0 : Int32).toInt = 0 := (by decide)
            refine ok_kb2 (k_X8_takes v155 hI_v155 0 2 ) (fun r193 v194 hr193 => ?_)
            have hr193 : IM v194 ∧ (Int32.toInt (v194 37 0 3) = Int32.toInt (v155 37 0 3)) ∧ (Int32.toInt (v194 37 0 4) = Int32.toInt (v155 37 0 4)) ∧ (Int32.toInt (v155 30 0 8) < 0 ∨ 0 ≤ Int32.toInt (v194 30 0 8)) ∧ (¬ Int32.toInt 0 = 0 ∨ 0 ≤ Int32.toInt (v194 30 0 8)) ∧ (Int32.toInt r193 = 0 ∨ (Int32.toInt r193 = Int32.toInt (v155 30 0 12) ∧ ¬ Int32.toInt 0 = 0)) := hr193
            obtain ⟨hI_v194, hr193⟩ := hr193
            have : ((v194 36 0 3).toInt = 0 ∧ (v194 36 0 4).toInt = 0) ∨ (0 < (v194 36 0 3).toInt ∧ 0 < (v194 36 0 4).toInt) := hI_v194.2.1
            have : (0 : Int) ≤ (v155 37 0 3).toInt ∧ (v155 37 0 3).toInt ≤ (6 : Int) := hI_v155.1 37 0 3
            have : (0 : Int) ≤ (v155 37 0 4).toInt ∧ (v155 37 0 4).toInt ≤ (4 : Int) := hI_v155.1 37 0 4
            have : (-1 : Int) ≤ (v155 30 0 8).toInt ∧ (v155 30 0 8).toInt ≤ (100 : Int) := hI_v155.1 30 0 8
            have : (0 : Int32).toInt = 0 := (by decide)
            have : (2 : Int32).toInt = 2 := (by decide)
            refine ok_ite _ (fun c195 => ?_) (fun c195 => ?_)
            · skip
              have ic195 := i_eq c195
              have : (0 : Int) ≤ (v194 30 0 11).toInt ∧ (v194 30 0 11).toInt ≤ (5 : Int) := hI_v194.1 30 0 11
              have : (4 : Int32).toInt = 4 := (by decide)
              refine ok_kb2 (k_X8_takes v194 hI_v194 1 1 ) (fun r197 v198 hr197 => ?_)
              have hr197 : IM v198 ∧ (Int32.toInt (v198 37 0 3) = Int32.toInt (v194 37 0 3)) ∧ (Int32.toInt (v198 37 0 4) = Int32.toInt (v194 37 0 4)) ∧ (Int32.toInt (v194 30 0 8) < 0 ∨ 0 ≤ Int32.toInt (v198 30 0 8)) ∧ (¬ Int32.toInt 1 = 0 ∨ 0 ≤ Int32.toInt (v198 30 0 8)) ∧ (Int32.toInt r197 = 0 ∨ (Int32.toInt r197 = Int32.toInt (v194 30 0 12) ∧ ¬ Int32.toInt 1 = 0)) := hr197
              obtain ⟨hI_v198, hr197⟩ := hr197
              have : ((v198 36 0 3).toInt = 0 ∧ (v198 36 0 4).toInt = 0) ∨ (0 < (v198 36 0 3).toInt ∧ 0 < (v198 36 0 4).toInt) := hI_v198.2.1
              have : (0 : Int) ≤ (v194 37 0 3).toInt ∧ (v194 37 0 3).toInt ≤ (6 : Int) := hI_v194.1 37 0 3
              have : (0 : Int) ≤ (v194 37 0 4).toInt ∧ (v194 37 0 4).toInt ≤ (4 : Int) := hI_v194.1 37 0 4
              have : (-1 : Int) ≤ (v194 30 0 8).toInt ∧ (v194 30 0 8).toInt ≤ (100 : Int) := hI_v194.1 30 0 8
              have : (1 : Int32).toInt = 1 := (by decide)
              refine ok_bind (k_X8_isWell v198 hI_v198  ) (fun r200 hr200 => ?_)
              have hr200 : (0 : Int) ≤ Int32.toInt r200 ∧ Int32.toInt r200 ≤ (1 : Int) ∧ ((Int32.toInt r200 = 0 ∧ 0 ≤ Int32.toInt (v198 30 0 8)) ∨ (Int32.toInt r200 = 1 ∧ Int32.toInt (v198 30 0 8) < 0)) := hr200
              have : (-1 : Int) ≤ (v198 30 0 8).toInt ∧ (v198 30 0 8).toInt ≤ (100 : Int) := hI_v198.1 30 0 8
              refine ok_ite _ (fun c202 => ?_) (fun c202 => ?_)
              · skip
                have ic202 := i_eq c202
                have : (0 : Int32).toInt = 0 := (by decide)
                refine ok_some ?_
                show IM v198 ∧ (Int32.toInt (v198 37 0 4) = Int32.toInt (v 37 0 4)) ∧ ((Int32.toInt (v 30 0 8) < 0 ∧ Int32.toInt (v198 37 0 3) = Int32.toInt (v 37 0 3) + 1) ∨ 0 ≤ Int32.toInt (v198 30 0 8))
                refine ⟨hI_v198, ?_⟩
                omega
              · skip
                have ic202 := i_ne c202
                have : (0 : Int32).toInt = 0 := (by decide)
                refine ok_grd _ ?_ ?_
                · skip
                  have : (8 : Int32).toInt = 8 := (by decide)
                  have : (3 : Int32).toInt = 3 := (by decide)
                  have : (0 : Int32).toInt = 0 := (by decide)
                  (first | have := sp_mulcx (3 : Int32) (0 : Int32) 0 (by decide) (by omega) | obtain ⟨k191, hk191⟩ := sp_mulc (3 : Int32) (0 : Int32) 0 (by decide))
                  (first | have := sp_addx (8 : Int32) ((3 : Int32) * 0) (by omega) | obtain ⟨k192, hk192⟩ := sp_add (8 : Int32) ((3 : Int32) * 0))
                  exact gr (by omega) (by omega)
                refine ok_let (fun v204 ev204 => ?_)
                have : (8 : Int32).toInt = 8 := (by decide)
                have : (3 : Int32).toInt = 3 := (by decide)
                have : (0 : Int32).toInt = 0 := (by decide)
                (first | have := sp_mulcx (3 : Int32) (0 : Int32) 0 (by decide) (by omega) | obtain ⟨k193, hk193⟩ := sp_mulc (3 : Int32) (0 : Int32) 0 (by decide))
                (first | have := sp_addx (8 : Int32) ((3 : Int32) * 0) (by omega) | obtain ⟨k194, hk194⟩ := sp_add (8 : Int32) ((3 : Int32) * 0))
                have hI_v204 : IM v204 := by
                  rw [ev204]
                  first | exact hI_v198.um7 (by omega) (by omega) | exact hI_v198.u07
                have := i_eq (show v204 30 0 8 = v198 30 0 8 by rw [ev204]; exact up3_t (by decide))
                have := i_eq (show v204 30 0 11 = v198 30 0 11 by rw [ev204]; exact up3_t (by decide))
                have := i_eq (show v204 30 0 12 = v198 30 0 12 by rw [ev204]; exact up3_t (by decide))
                (try have := i_eq (show v204 37 0 3 = v198 37 0 3 by rw [ev204]; exact up3_j (tcne (by omega) (by omega))))
                (try have := i_eq (show v204 37 0 4 = v198 37 0 4 by rw [ev204]; exact up3_j (tcne (by omega) (by omega))))
                have : ((v204 36 0 3).toInt = 0 ∧ (v204 36 0 4).toInt = 0) ∨ (0 < (v204 36 0 3).toInt ∧ 0 < (v204 36 0 4).toInt) := hI_v204.2.1
                refine ok_grd _ ?_ ?_
                · skip
                  have : (8 : Int32).toInt = 8 := (by decide)
                  have : (3 : Int32).toInt = 3 := (by decide)
                  have : (0 : Int32).toInt = 0 := (by decide)
                  (first | have := sp_mulcx (3 : Int32) (0 : Int32) 0 (by decide) (by omega) | obtain ⟨k195, hk195⟩ := sp_mulc (3 : Int32) (0 : Int32) 0 (by decide))
                  (first | have := sp_addx (8 : Int32) ((3 : Int32) * 0) (by omega) | obtain ⟨k196, hk196⟩ := sp_add (8 : Int32) ((3 : Int32) * 0))
                  have : (1 : Int32).toInt = 1 := (by decide)
                  (first | have := sp_addx ((8 : Int32) + ((3 : Int32) * 0)) (1 : Int32) (by omega) | obtain ⟨k197, hk197⟩ := sp_add ((8 : Int32) + ((3 : Int32) * 0)) (1 : Int32))
                  exact gr (by omega) (by omega)
                refine ok_let (fun v206 ev206 => ?_)
                have : (8 : Int32).toInt = 8 := (by decide)
                have : (3 : Int32).toInt = 3 := (by decide)
                have : (0 : Int32).toInt = 0 := (by decide)
                (first | have := sp_mulcx (3 : Int32) (0 : Int32) 0 (by decide) (by omega) | obtain ⟨k198, hk198⟩ := sp_mulc (3 : Int32) (0 : Int32) 0 (by decide))
                (first | have := sp_addx (8 : Int32) ((3 : Int32) * 0) (by omega) | obtain ⟨k199, hk199⟩ := sp_add (8 : Int32) ((3 : Int32) * 0))
                have : (1 : Int32).toInt = 1 := (by decide)
                (first | have := sp_addx ((8 : Int32) + ((3 : Int32) * 0)) (1 : Int32) (by omega) | obtain ⟨k200, hk200⟩ := sp_add ((8 : Int32) + ((3 : Int32) * 0)) (1 : Int32))
                have hI_v206 : IM v206 := by
                  rw [ev206]
                  first | exact hI_v204.um7 (by omega) (by omega) | exact hI_v204.u07
                have := i_eq (show v206 30 0 8 = v204 30 0 8 by rw [ev206]; exact up3_t (by decide))
                have := i_eq (show v206 30 0 11 = v204 30 0 11 by rw [ev206]; exact up3_t (by decide))
                have := i_eq (show v206 30 0 12 = v204 30 0 12 by rw [ev206]; exact up3_t (by decide))
                (try have := i_eq (show v206 37 0 3 = v204 37 0 3 by rw [ev206]; exact up3_j (tcne (by omega) (by omega))))
                (try have := i_eq (show v206 37 0 4 = v204 37 0 4 by rw [ev206]; exact up3_j (tcne (by omega) (by omega))))
                have : ((v206 36 0 3).toInt = 0 ∧ (v206 36 0 4).toInt = 0) ∨ (0 < (v206 36 0 3).toInt ∧ 0 < (v206 36 0 4).toInt) := hI_v206.2.1
                refine ok_grd _ ?_ ?_
                · skip
                  have : (8 : Int32).toInt = 8 := (by decide)
                  have : (3 : Int32).toInt = 3 := (by decide)
                  have : (0 : Int32).toInt = 0 := (by decide)
                  (first | have := sp_mulcx (3 : Int32) (0 : Int32) 0 (by decide) (by omega) | obtain ⟨k201, hk201⟩ := sp_mulc (3 : Int32) (0 : Int32) 0 (by decide))
                  (first | have := sp_addx (8 : Int32) ((3 : Int32) * 0) (by omega) | obtain ⟨k202, hk202⟩ := sp_add (8 : Int32) ((3 : Int32) * 0))
                  have : (2 : Int32).toInt = 2 := (by decide)
                  (first | have := sp_addx ((8 : Int32) + ((3 : Int32) * 0)) (2 : Int32) (by omega) | obtain ⟨k203, hk203⟩ := sp_add ((8 : Int32) + ((3 : Int32) * 0)) (2 : Int32))
                  exact gr (by omega) (by omega)
                refine ok_let (fun v208 ev208 => ?_)
                have : (8 : Int32).toInt = 8 := (by decide)
                have : (3 : Int32).toInt = 3 := (by decide)
                have : (0 : Int32).toInt = 0 := (by decide)
                (first | have := sp_mulcx (3 : Int32) (0 : Int32) 0 (by decide) (by omega) | obtain ⟨k204, hk204⟩ := sp_mulc (3 : Int32) (0 : Int32) 0 (by decide))
                (first | have := sp_addx (8 : Int32) ((3 : Int32) * 0) (by omega) | obtain ⟨k205, hk205⟩ := sp_add (8 : Int32) ((3 : Int32) * 0))
                have : (2 : Int32).toInt = 2 := (by decide)
                (first | have := sp_addx ((8 : Int32) + ((3 : Int32) * 0)) (2 : Int32) (by omega) | obtain ⟨k206, hk206⟩ := sp_add ((8 : Int32) + ((3 : Int32) * 0)) (2 : Int32))
                have : (97 : Int32).toInt = 97 := (by decide)
                have := i_bd r193
                (first | have := sp_subx r193 (97 : Int32) (by omega) | obtain ⟨k207, hk207⟩ := sp_sub r193 (97 : Int32))
                have hI_v208 : IM v208 := by
                  rw [ev208]
                  first | exact hI_v206.um7 (by omega) (by omega) | exact hI_v206.u07
                have := i_eq (show v208 30 0 8 = v206 30 0 8 by rw [ev208]; exact up3_t (by decide))
                have := i_eq (show v208 30 0 11 = v206 30 0 11 by rw [ev208]; exact up3_t (by decide))
                have := i_eq (show v208 30 0 12 = v206 30 0 12 by rw [ev208]; exact up3_t (by decide))
                (try have := i_eq (show v208 37 0 3 = v206 37 0 3 by rw [ev208]; exact up3_j (tcne (by omega) (by omega))))
                (try have := i_eq (show v208 37 0 4 = v206 37 0 4 by rw [ev208]; exact up3_j (tcne (by omega) (by omega))))
                have : ((v208 36 0 3).toInt = 0 ∧ (v208 36 0 4).toInt = 0) ∨ (0 < (v208 36 0 3).toInt ∧ 0 < (v208 36 0 4).toInt) := hI_v208.2.1
                refine ok_let (fun v209 ev209 => ?_)
                have hI_v209 : IM v209 := by
                  rw [ev209]
                  refine hI_v208.upo (by decide) ?_
                  show (0 : Int) ≤ Int32.toInt ((v208 37 0 3) + 1) ∧ Int32.toInt ((v208 37 0 3) + 1) ≤ (6 : Int)
                  have : (0 : Int) ≤ (v208 37 0 3).toInt ∧ (v208 37 0 3).toInt ≤ (6 : Int) := hI_v208.1 37 0 3
                  have : (1 : Int32).toInt = 1 := (by decide)
                  have := i_bd (v208 37 0 3)
                  (first | have := sp_addx (v208 37 0 3) (1 : Int32) (by omega) | obtain ⟨k208, hk208⟩ := sp_add (v208 37 0 3) (1 : Int32))
                  omega
                have := i_eq (show v209 30 0 8 = v208 30 0 8 by rw [ev209]; exact up3_t (by decide))
                have := i_eq (show v209 30 0 11 = v208 30 0 11 by rw [ev209]; exact up3_t (by decide))
                have := i_eq (show v209 30 0 12 = v208 30 0 12 by rw [ev209]; exact up3_t (by decide))
                have := i_eq (show v209 37 0 3 = ((v208 37 0 3) + 1) by rw [ev209]; exact up3_s)
                have : (0 : Int) ≤ (v208 37 0 3).toInt ∧ (v208 37 0 3).toInt ≤ (6 : Int) := hI_v208.1 37 0 3
                have : (1 : Int32).toInt = 1 := (by decide)
                have := i_bd (v208 37 0 3)
                (first | have := sp_addx (v208 37 0 3) (1 : Int32) (by omega) | obtain ⟨k209, hk209⟩ := sp_add (v208 37 0 3) (1 : Int32))
                have := i_eq (show v209 37 0 4 = v208 37 0 4 by rw [ev209]; exact up3_j (by decide))
                have : ((v209 36 0 3).toInt = 0 ∧ (v209 36 0 4).toInt = 0) ∨ (0 < (v209 36 0 3).toInt ∧ 0 < (v209 36 0 4).toInt) := hI_v209.2.1
                refine ok_some ?_
                show IM v209 ∧ (Int32.toInt (v209 37 0 4) = Int32.toInt (v 37 0 4)) ∧ ((Int32.toInt (v 30 0 8) < 0 ∧ Int32.toInt (v209 37 0 3) = Int32.toInt (v 37 0 3) + 1) ∨ 0 ≤ Int32.toInt (v209 30 0 8))
                refine ⟨hI_v209, ?_⟩
                omega
            · skip
              have ic195 := i_ne c195
              have : (0 : Int) ≤ (v194 30 0 11).toInt ∧ (v194 30 0 11).toInt ≤ (5 : Int) := hI_v194.1 30 0 11
              have : (4 : Int32).toInt = 4 := (by decide)
              refine ok_kb2 (k_X8_takes v194 hI_v194 0 1 ) (fun r211 v212 hr211 => ?_)
              have hr211 : IM v212 ∧ (Int32.toInt (v212 37 0 3) = Int32.toInt (v194 37 0 3)) ∧ (Int32.toInt (v212 37 0 4) = Int32.toInt (v194 37 0 4)) ∧ (Int32.toInt (v194 30 0 8) < 0 ∨ 0 ≤ Int32.toInt (v212 30 0 8)) ∧ (¬ Int32.toInt 0 = 0 ∨ 0 ≤ Int32.toInt (v212 30 0 8)) ∧ (Int32.toInt r211 = 0 ∨ (Int32.toInt r211 = Int32.toInt (v194 30 0 12) ∧ ¬ Int32.toInt 0 = 0)) := hr211
              obtain ⟨hI_v212, hr211⟩ := hr211
              have : ((v212 36 0 3).toInt = 0 ∧ (v212 36 0 4).toInt = 0) ∨ (0 < (v212 36 0 3).toInt ∧ 0 < (v212 36 0 4).toInt) := hI_v212.2.1
              have : (0 : Int) ≤ (v194 37 0 3).toInt ∧ (v194 37 0 3).toInt ≤ (6 : Int) := hI_v194.1 37 0 3
              have : (0 : Int) ≤ (v194 37 0 4).toInt ∧ (v194 37 0 4).toInt ≤ (4 : Int) := hI_v194.1 37 0 4
              have : (-1 : Int) ≤ (v194 30 0 8).toInt ∧ (v194 30 0 8).toInt ≤ (100 : Int) := hI_v194.1 30 0 8
              have : (0 : Int32).toInt = 0 := (by decide)
              have : (1 : Int32).toInt = 1 := (by decide)
              refine ok_bind (k_X8_isWell v212 hI_v212  ) (fun r214 hr214 => ?_)
              have hr214 : (0 : Int) ≤ Int32.toInt r214 ∧ Int32.toInt r214 ≤ (1 : Int) ∧ ((Int32.toInt r214 = 0 ∧ 0 ≤ Int32.toInt (v212 30 0 8)) ∨ (Int32.toInt r214 = 1 ∧ Int32.toInt (v212 30 0 8) < 0)) := hr214
              have : (-1 : Int) ≤ (v212 30 0 8).toInt ∧ (v212 30 0 8).toInt ≤ (100 : Int) := hI_v212.1 30 0 8
              refine ok_ite _ (fun c216 => ?_) (fun c216 => ?_)
              · skip
                have ic216 := i_eq c216
                have : (0 : Int32).toInt = 0 := (by decide)
                refine ok_some ?_
                show IM v212 ∧ (Int32.toInt (v212 37 0 4) = Int32.toInt (v 37 0 4)) ∧ ((Int32.toInt (v 30 0 8) < 0 ∧ Int32.toInt (v212 37 0 3) = Int32.toInt (v 37 0 3) + 1) ∨ 0 ≤ Int32.toInt (v212 30 0 8))
                refine ⟨hI_v212, ?_⟩
                omega
              · skip
                have ic216 := i_ne c216
                have : (0 : Int32).toInt = 0 := (by decide)
                refine ok_grd _ ?_ ?_
                · skip
                  have : (8 : Int32).toInt = 8 := (by decide)
                  have : (3 : Int32).toInt = 3 := (by decide)
                  have : (0 : Int32).toInt = 0 := (by decide)
                  (first | have := sp_mulcx (3 : Int32) (0 : Int32) 0 (by decide) (by omega) | obtain ⟨k210, hk210⟩ := sp_mulc (3 : Int32) (0 : Int32) 0 (by decide))
                  (first | have := sp_addx (8 : Int32) ((3 : Int32) * 0) (by omega) | obtain ⟨k211, hk211⟩ := sp_add (8 : Int32) ((3 : Int32) * 0))
                  exact gr (by omega) (by omega)
                refine ok_let (fun v218 ev218 => ?_)
                have : (8 : Int32).toInt = 8 := (by decide)
                have : (3 : Int32).toInt = 3 := (by decide)
                have : (0 : Int32).toInt = 0 := (by decide)
                (first | have := sp_mulcx (3 : Int32) (0 : Int32) 0 (by decide) (by omega) | obtain ⟨k212, hk212⟩ := sp_mulc (3 : Int32) (0 : Int32) 0 (by decide))
                (first | have := sp_addx (8 : Int32) ((3 : Int32) * 0) (by omega) | obtain ⟨k213, hk213⟩ := sp_add (8 : Int32) ((3 : Int32) * 0))
                have hI_v218 : IM v218 := by
                  rw [ev218]
                  first | exact hI_v212.um7 (by omega) (by omega) | exact hI_v212.u07
                have := i_eq (show v218 30 0 8 = v212 30 0 8 by rw [ev218]; exact up3_t (by decide))
                have := i_eq (show v218 30 0 11 = v212 30 0 11 by rw [ev218]; exact up3_t (by decide))
                have := i_eq (show v218 30 0 12 = v212 30 0 12 by rw [ev218]; exact up3_t (by decide))
                (try have := i_eq (show v218 37 0 3 = v212 37 0 3 by rw [ev218]; exact up3_j (tcne (by omega) (by omega))))
                (try have := i_eq (show v218 37 0 4 = v212 37 0 4 by rw [ev218]; exact up3_j (tcne (by omega) (by omega))))
                have : ((v218 36 0 3).toInt = 0 ∧ (v218 36 0 4).toInt = 0) ∨ (0 < (v218 36 0 3).toInt ∧ 0 < (v218 36 0 4).toInt) := hI_v218.2.1
                refine ok_grd _ ?_ ?_
                · skip
                  have : (8 : Int32).toInt = 8 := (by decide)
                  have : (3 : Int32).toInt = 3 := (by decide)
                  have : (0 : Int32).toInt = 0 := (by decide)
                  (first | have := sp_mulcx (3 : Int32) (0 : Int32) 0 (by decide) (by omega) | obtain ⟨k214, hk214⟩ := sp_mulc (3 : Int32) (0 : Int32) 0 (by decide))
                  (first | have := sp_addx (8 : Int32) ((3 : Int32) * 0) (by omega) | obtain ⟨k215, hk215⟩ := sp_add (8 : Int32) ((3 : Int32) * 0))
                  have : (1 : Int32).toInt = 1 := (by decide)
                  (first | have := sp_addx ((8 : Int32) + ((3 : Int32) * 0)) (1 : Int32) (by omega) | obtain ⟨k216, hk216⟩ := sp_add ((8 : Int32) + ((3 : Int32) * 0)) (1 : Int32))
                  exact gr (by omega) (by omega)
                refine ok_let (fun v220 ev220 => ?_)
                have : (8 : Int32).toInt = 8 := (by decide)
                have : (3 : Int32).toInt = 3 := (by decide)
                have : (0 : Int32).toInt = 0 := (by decide)
                (first | have := sp_mulcx (3 : Int32) (0 : Int32) 0 (by decide) (by omega) | obtain ⟨k217, hk217⟩ := sp_mulc (3 : Int32) (0 : Int32) 0 (by decide))
                (first | have := sp_addx (8 : Int32) ((3 : Int32) * 0) (by omega) | obtain ⟨k218, hk218⟩ := sp_add (8 : Int32) ((3 : Int32) * 0))
                have : (1 : Int32).toInt = 1 := (by decide)
                (first | have := sp_addx ((8 : Int32) + ((3 : Int32) * 0)) (1 : Int32) (by omega) | obtain ⟨k219, hk219⟩ := sp_add ((8 : Int32) + ((3 : Int32) * 0)) (1 : Int32))
                have hI_v220 : IM v220 := by
                  rw [ev220]
                  first | exact hI_v218.um7 (by omega) (by omega) | exact hI_v218.u07
                have := i_eq (show v220 30 0 8 = v218 30 0 8 by rw [ev220]; exact up3_t (by decide))
                have := i_eq (show v220 30 0 11 = v218 30 0 11 by rw [ev220]; exact up3_t (by decide))
                have := i_eq (show v220 30 0 12 = v218 30 0 12 by rw [ev220]; exact up3_t (by decide))
                (try have := i_eq (show v220 37 0 3 = v218 37 0 3 by rw [ev220]; exact up3_j (tcne (by omega) (by omega))))
                (try have := i_eq (show v220 37 0 4 = v218 37 0 4 by rw [ev220]; exact up3_j (tcne (by omega) (by omega))))
                have : ((v220 36 0 3).toInt = 0 ∧ (v220 36 0 4).toInt = 0) ∨ (0 < (v220 36 0 3).toInt ∧ 0 < (v220 36 0 4).toInt) := hI_v220.2.1
                refine ok_grd _ ?_ ?_
                · skip
                  have : (8 : Int32).toInt = 8 := (by decide)
                  have : (3 : Int32).toInt = 3 := (by decide)
                  have : (0 : Int32).toInt = 0 := (by decide)
                  (first | have := sp_mulcx (3 : Int32) (0 : Int32) 0 (by decide) (by omega) | obtain ⟨k220, hk220⟩ := sp_mulc (3 : Int32) (0 : Int32) 0 (by decide))
                  (first | have := sp_addx (8 : Int32) ((3 : Int32) * 0) (by omega) | obtain ⟨k221, hk221⟩ := sp_add (8 : Int32) ((3 : Int32) * 0))
                  have : (2 : Int32).toInt = 2 := (by decide)
                  (first | have := sp_addx ((8 : Int32) + ((3 : Int32) * 0)) (2 : Int32) (by omega) | obtain ⟨k222, hk222⟩ := sp_add ((8 : Int32) + ((3 : Int32) * 0)) (2 : Int32))
                  exact gr (by omega) (by omega)
                refine ok_let (fun v222 ev222 => ?_)
                have : (8 : Int32).toInt = 8 := (by decide)
                have : (3 : Int32).toInt = 3 := (by decide)
                have : (0 : Int32).toInt = 0 := (by decide)
                (first | have := sp_mulcx (3 : Int32) (0 : Int32) 0 (by decide) (by omega) | obtain ⟨k223, hk223⟩ := sp_mulc (3 : Int32) (0 : Int32) 0 (by decide))
                (first | have := sp_addx (8 : Int32) ((3 : Int32) * 0) (by omega) | obtain ⟨k224, hk224⟩ := sp_add (8 : Int32) ((3 : Int32) * 0))
                have : (2 : Int32).toInt = 2 := (by decide)
                (first | have := sp_addx ((8 : Int32) + ((3 : Int32) * 0)) (2 : Int32) (by omega) | obtain ⟨k225, hk225⟩ := sp_add ((8 : Int32) + ((3 : Int32) * 0)) (2 : Int32))
                have : (97 : Int32).toInt = 97 := (by decide)
                have := i_bd r193
                (first | have := sp_subx r193 (97 : Int32) (by omega) | obtain ⟨k226, hk226⟩ := sp_sub r193 (97 : Int32))
                have hI_v222 : IM v222 := by
                  rw [ev222]
                  first | exact hI_v220.um7 (by omega) (by omega) | exact hI_v220.u07
                have := i_eq (show v222 30 0 8 = v220 30 0 8 by rw [ev222]; exact up3_t (by decide))
                have := i_eq (show v222 30 0 11 = v220 30 0 11 by rw [ev222]; exact up3_t (by decide))
                have := i_eq (show v222 30 0 12 = v220 30 0 12 by rw [ev222]; exact up3_t (by decide))
                (try have := i_eq (show v222 37 0 3 = v220 37 0 3 by rw [ev222]; exact up3_j (tcne (by omega) (by omega))))
                (try have := i_eq (show v222 37 0 4 = v220 37 0 4 by rw [ev222]; exact up3_j (tcne (by omega) (by omega))))
                have : ((v222 36 0 3).toInt = 0 ∧ (v222 36 0 4).toInt = 0) ∨ (0 < (v222 36 0 3).toInt ∧ 0 < (v222 36 0 4).toInt) := hI_v222.2.1
                refine ok_let (fun v223 ev223 => ?_)
                have hI_v223 : IM v223 := by
                  rw [ev223]
                  refine hI_v222.upo (by decide) ?_
                  show (0 : Int) ≤ Int32.toInt ((v222 37 0 3) + 1) ∧ Int32.toInt ((v222 37 0 3) + 1) ≤ (6 : Int)
                  have : (0 : Int) ≤ (v222 37 0 3).toInt ∧ (v222 37 0 3).toInt ≤ (6 : Int) := hI_v222.1 37 0 3
                  have : (1 : Int32).toInt = 1 := (by decide)
                  have := i_bd (v222 37 0 3)
                  (first | have := sp_addx (v222 37 0 3) (1 : Int32) (by omega) | obtain ⟨k227, hk227⟩ := sp_add (v222 37 0 3) (1 : Int32))
                  omega
                have := i_eq (show v223 30 0 8 = v222 30 0 8 by rw [ev223]; exact up3_t (by decide))
                have := i_eq (show v223 30 0 11 = v222 30 0 11 by rw [ev223]; exact up3_t (by decide))
                have := i_eq (show v223 30 0 12 = v222 30 0 12 by rw [ev223]; exact up3_t (by decide))
                have := i_eq (show v223 37 0 3 = ((v222 37 0 3) + 1) by rw [ev223]; exact up3_s)
                have : (0 : Int) ≤ (v222 37 0 3).toInt ∧ (v222 37 0 3).toInt ≤ (6 : Int) := hI_v222.1 37 0 3
                have : (1 : Int32).toInt = 1 := (by decide)
                have := i_bd (v222 37 0 3)
                (first | have := sp_addx (v222 37 0 3) (1 : Int32) (by omega) | obtain ⟨k228, hk228⟩ := sp_add (v222 37 0 3) (1 : Int32))
                have := i_eq (show v223 37 0 4 = v222 37 0 4 by rw [ev223]; exact up3_j (by decide))
                have : ((v223 36 0 3).toInt = 0 ∧ (v223 36 0 4).toInt = 0) ∨ (0 < (v223 36 0 3).toInt ∧ 0 < (v223 36 0 4).toInt) := hI_v223.2.1
                refine ok_some ?_
                show IM v223 ∧ (Int32.toInt (v223 37 0 4) = Int32.toInt (v 37 0 4)) ∧ ((Int32.toInt (v 30 0 8) < 0 ∧ Int32.toInt (v223 37 0 3) = Int32.toInt (v 37 0 3) + 1) ∨ 0 ≤ Int32.toInt (v223 30 0 8))
                refine ⟨hI_v223, ?_⟩
                omega
    · skip
      have ic5 := i_nle c5
      have : (0 : Int) ≤ (v4 37 0 3).toInt ∧ (v4 37 0 3).toInt ≤ (6 : Int) := hI_v4.1 37 0 3
      have : (6 : Int32).toInt = 6 := (by decide)
      refine ok_let (fun x224 ex224 => ?_)
      have : (8 : Int32).toInt = 8 := (by decide)
      have : (3 : Int32).toInt = 3 := (by decide)
      have : (0 : Int) ≤ (v4 37 0 3).toInt ∧ (v4 37 0 3).toInt ≤ (6 : Int) := hI_v4.1 37 0 3
      (first | have := sp_cmulx (3 : Int32) (v4 37 0 3) 3 (by decide) (by omega) | obtain ⟨k229, hk229⟩ := sp_cmul (3 : Int32) (v4 37 0 3) 3 (by decide))
      (first | have := sp_addx (8 : Int32) ((3 : Int32) * (v4 37 0 3)) (by omega) | obtain ⟨k230, hk230⟩ := sp_add (8 : Int32) ((3 : Int32) * (v4 37 0 3)))
      have := i_eq ex224
      refine ok_kb2 (k_X8_letterOf v4 hI_v4  ) (fun r226 v227 hr226 => ?_)
      have hr226 : IM v227 ∧ (Int32.toInt (v227 37 0 3) = Int32.toInt (v4 37 0 3)) ∧ (Int32.toInt (v227 37 0 4) = Int32.toInt (v4 37 0 4)) ∧ (Int32.toInt (v4 30 0 8) < 0 ∨ 0 ≤ Int32.toInt (v227 30 0 8)) := hr226
      obtain ⟨hI_v227, hr226⟩ := hr226
      have : ((v227 36 0 3).toInt = 0 ∧ (v227 36 0 4).toInt = 0) ∨ (0 < (v227 36 0 3).toInt ∧ 0 < (v227 36 0 4).toInt) := hI_v227.2.1
      have : (0 : Int) ≤ (v4 37 0 3).toInt ∧ (v4 37 0 3).toInt ≤ (6 : Int) := hI_v4.1 37 0 3
      have : (0 : Int) ≤ (v4 37 0 4).toInt ∧ (v4 37 0 4).toInt ≤ (4 : Int) := hI_v4.1 37 0 4
      have : (-1 : Int) ≤ (v4 30 0 8).toInt ∧ (v4 30 0 8).toInt ≤ (100 : Int) := hI_v4.1 30 0 8
      refine ok_kb2 (k_X8_letterOf v227 hI_v227  ) (fun r229 v230 hr229 => ?_)
      have hr229 : IM v230 ∧ (Int32.toInt (v230 37 0 3) = Int32.toInt (v227 37 0 3)) ∧ (Int32.toInt (v230 37 0 4) = Int32.toInt (v227 37 0 4)) ∧ (Int32.toInt (v227 30 0 8) < 0 ∨ 0 ≤ Int32.toInt (v230 30 0 8)) := hr229
      obtain ⟨hI_v230, hr229⟩ := hr229
      have : ((v230 36 0 3).toInt = 0 ∧ (v230 36 0 4).toInt = 0) ∨ (0 < (v230 36 0 3).toInt ∧ 0 < (v230 36 0 4).toInt) := hI_v230.2.1
      have : (0 : Int) ≤ (v227 37 0 3).toInt ∧ (v227 37 0 3).toInt ≤ (6 : Int) := hI_v227.1 37 0 3
      have : (0 : Int) ≤ (v227 37 0 4).toInt ∧ (v227 37 0 4).toInt ≤ (4 : Int) := hI_v227.1 37 0 4
      have : (-1 : Int) ≤ (v227 30 0 8).toInt ∧ (v227 30 0 8).toInt ≤ (100 : Int) := hI_v227.1 30 0 8
      refine ok_bind (k_X8_isWell v230 hI_v230  ) (fun r232 hr232 => ?_)
      have hr232 : (0 : Int) ≤ Int32.toInt r232 ∧ Int32.toInt r232 ≤ (1 : Int) ∧ ((Int32.toInt r232 = 0 ∧ 0 ≤ Int32.toInt (v230 30 0 8)) ∨ (Int32.toInt r232 = 1 ∧ Int32.toInt (v230 30 0 8) < 0)) := hr232
      have : (-1 : Int) ≤ (v230 30 0 8).toInt ∧ (v230 30 0 8).toInt ≤ (100 : Int) := hI_v230.1 30 0 8
      refine ok_ite _ (fun c234 => ?_) (fun c234 => ?_)
      · skip
        have ic234 := i_eq c234
        have : (0 : Int32).toInt = 0 := (by decide)
        refine ok_bind (k_X8_isTold v230 hI_v230 r226 r229 ((v230 30 0 12) - 97) ) (fun r236 hr236 => ?_)
        have hr236 : (0 : Int) ≤ Int32.toInt r236 ∧ Int32.toInt r236 ≤ (1 : Int) := hr236
        refine ok_ite _ (fun c238 => ?_) (fun c238 => ?_)
        · skip
          have ic238 := i_eq c238
          have : (0 : Int32).toInt = 0 := (by decide)
          refine ok_kb2 (k_X8_takes v230 hI_v230 1 2 ) (fun r240 v241 hr240 => ?_)
          have hr240 : IM v241 ∧ (Int32.toInt (v241 37 0 3) = Int32.toInt (v230 37 0 3)) ∧ (Int32.toInt (v241 37 0 4) = Int32.toInt (v230 37 0 4)) ∧ (Int32.toInt (v230 30 0 8) < 0 ∨ 0 ≤ Int32.toInt (v241 30 0 8)) ∧ (¬ Int32.toInt 1 = 0 ∨ 0 ≤ Int32.toInt (v241 30 0 8)) ∧ (Int32.toInt r240 = 0 ∨ (Int32.toInt r240 = Int32.toInt (v230 30 0 12) ∧ ¬ Int32.toInt 1 = 0)) := hr240
          obtain ⟨hI_v241, hr240⟩ := hr240
          have : ((v241 36 0 3).toInt = 0 ∧ (v241 36 0 4).toInt = 0) ∨ (0 < (v241 36 0 3).toInt ∧ 0 < (v241 36 0 4).toInt) := hI_v241.2.1
          have : (0 : Int) ≤ (v230 37 0 3).toInt ∧ (v230 37 0 3).toInt ≤ (6 : Int) := hI_v230.1 37 0 3
          have : (0 : Int) ≤ (v230 37 0 4).toInt ∧ (v230 37 0 4).toInt ≤ (4 : Int) := hI_v230.1 37 0 4
          have : (-1 : Int) ≤ (v230 30 0 8).toInt ∧ (v230 30 0 8).toInt ≤ (100 : Int) := hI_v230.1 30 0 8
          have : (1 : Int32).toInt = 1 := (by decide)
          have : (2 : Int32).toInt = 2 := (by decide)
          refine ok_ite _ (fun c242 => ?_) (fun c242 => ?_)
          · skip
            have ic242 := i_eq c242
            have : (0 : Int) ≤ (v241 30 0 11).toInt ∧ (v241 30 0 11).toInt ≤ (5 : Int) := hI_v241.1 30 0 11
            have : (4 : Int32).toInt = 4 := (by decide)
            refine ok_kb2 (k_X8_takes v241 hI_v241 1 1 ) (fun r244 v245 hr244 => ?_)
            have hr244 : IM v245 ∧ (Int32.toInt (v245 37 0 3) = Int32.toInt (v241 37 0 3)) ∧ (Int32.toInt (v245 37 0 4) = Int32.toInt (v241 37 0 4)) ∧ (Int32.toInt (v241 30 0 8) < 0 ∨ 0 ≤ Int32.toInt (v245 30 0 8)) ∧ (¬ Int32.toInt 1 = 0 ∨ 0 ≤ Int32.toInt (v245 30 0 8)) ∧ (Int32.toInt r244 = 0 ∨ (Int32.toInt r244 = Int32.toInt (v241 30 0 12) ∧ ¬ Int32.toInt 1 = 0)) := hr244
            obtain ⟨hI_v245, hr244⟩ := hr244
            have : ((v245 36 0 3).toInt = 0 ∧ (v245 36 0 4).toInt = 0) ∨ (0 < (v245 36 0 3).toInt ∧ 0 < (v245 36 0 4).toInt) := hI_v245.2.1
            have : (0 : Int) ≤ (v241 37 0 3).toInt ∧ (v241 37 0 3).toInt ≤ (6 : Int) := hI_v241.1 37 0 3
            have : (0 : Int) ≤ (v241 37 0 4).toInt ∧ (v241 37 0 4).toInt ≤ (4 : Int) := hI_v241.1 37 0 4
            have : (-1 : Int) ≤ (v241 30 0 8).toInt ∧ (v241 30 0 8).toInt ≤ (100 : Int) := hI_v241.1 30 0 8
            have : (1 : Int32).toInt = 1 := (by decide)
            refine ok_bind (k_X8_isWell v245 hI_v245  ) (fun r247 hr247 => ?_)
            have hr247 : (0 : Int) ≤ Int32.toInt r247 ∧ Int32.toInt r247 ≤ (1 : Int) ∧ ((Int32.toInt r247 = 0 ∧ 0 ≤ Int32.toInt (v245 30 0 8)) ∨ (Int32.toInt r247 = 1 ∧ Int32.toInt (v245 30 0 8) < 0)) := hr247
            have : (-1 : Int) ≤ (v245 30 0 8).toInt ∧ (v245 30 0 8).toInt ≤ (100 : Int) := hI_v245.1 30 0 8
            refine ok_ite _ (fun c249 => ?_) (fun c249 => ?_)
            · skip
              have ic249 := i_eq c249
              have : (0 : Int32).toInt = 0 := (by decide)
              refine ok_some ?_
              show IM v245 ∧ (Int32.toInt (v245 37 0 4) = Int32.toInt (v 37 0 4)) ∧ ((Int32.toInt (v 30 0 8) < 0 ∧ Int32.toInt (v245 37 0 3) = Int32.toInt (v 37 0 3) + 1) ∨ 0 ≤ Int32.toInt (v245 30 0 8))
              refine ⟨hI_v245, ?_⟩
              omega
            · skip
              have ic249 := i_ne c249
              have : (0 : Int32).toInt = 0 := (by decide)
              refine ok_grd _ ?_ ?_
              · skip
                exact gr (by omega) (by omega)
              refine ok_let (fun v251 ev251 => ?_)
              have hI_v251 : IM v251 := by
                rw [ev251]
                first | exact hI_v245.um7 (by omega) (by omega) | exact hI_v245.u07
              have := i_eq (show v251 30 0 8 = v245 30 0 8 by rw [ev251]; exact up3_t (by decide))
              have := i_eq (show v251 30 0 11 = v245 30 0 11 by rw [ev251]; exact up3_t (by decide))
              have := i_eq (show v251 30 0 12 = v245 30 0 12 by rw [ev251]; exact up3_t (by decide))
              (try have := i_eq (show v251 37 0 3 = v245 37 0 3 by rw [ev251]; exact up3_j (tcne (by omega) (by omega))))
              (try have := i_eq (show v251 37 0 4 = v245 37 0 4 by rw [ev251]; exact up3_j (tcne (by omega) (by omega))))
              have : ((v251 36 0 3).toInt = 0 ∧ (v251 36 0 4).toInt = 0) ∨ (0 < (v251 36 0 3).toInt ∧ 0 < (v251 36 0 4).toInt) := hI_v251.2.1
              refine ok_grd _ ?_ ?_
              · skip
                have : (1 : Int32).toInt = 1 := (by decide)
                have := i_bd x224
                (first | have := sp_addx x224 (1 : Int32) (by omega) | obtain ⟨k231, hk231⟩ := sp_add x224 (1 : Int32))
                exact gr (by omega) (by omega)
              refine ok_let (fun v253 ev253 => ?_)
              have : (1 : Int32).toInt = 1 := (by decide)
              have := i_bd x224
              (first | have := sp_addx x224 (1 : Int32) (by omega) | obtain ⟨k232, hk232⟩ := sp_add x224 (1 : Int32))
              have hI_v253 : IM v253 := by
                rw [ev253]
                first | exact hI_v251.um7 (by omega) (by omega) | exact hI_v251.u07
              have := i_eq (show v253 30 0 8 = v251 30 0 8 by rw [ev253]; exact up3_t (by decide))
              have := i_eq (show v253 30 0 11 = v251 30 0 11 by rw [ev253]; exact up3_t (by decide))
              have := i_eq (show v253 30 0 12 = v251 30 0 12 by rw [ev253]; exact up3_t (by decide))
              (try have := i_eq (show v253 37 0 3 = v251 37 0 3 by rw [ev253]; exact up3_j (tcne (by omega) (by omega))))
              (try have := i_eq (show v253 37 0 4 = v251 37 0 4 by rw [ev253]; exact up3_j (tcne (by omega) (by omega))))
              have : ((v253 36 0 3).toInt = 0 ∧ (v253 36 0 4).toInt = 0) ∨ (0 < (v253 36 0 3).toInt ∧ 0 < (v253 36 0 4).toInt) := hI_v253.2.1
              refine ok_grd _ ?_ ?_
              · skip
                have : (2 : Int32).toInt = 2 := (by decide)
                have := i_bd x224
                (first | have := sp_addx x224 (2 : Int32) (by omega) | obtain ⟨k233, hk233⟩ := sp_add x224 (2 : Int32))
                exact gr (by omega) (by omega)
              refine ok_let (fun v255 ev255 => ?_)
              have : (2 : Int32).toInt = 2 := (by decide)
              have := i_bd x224
              (first | have := sp_addx x224 (2 : Int32) (by omega) | obtain ⟨k234, hk234⟩ := sp_add x224 (2 : Int32))
              have : (97 : Int32).toInt = 97 := (by decide)
              have := i_bd r240
              (first | have := sp_subx r240 (97 : Int32) (by omega) | obtain ⟨k235, hk235⟩ := sp_sub r240 (97 : Int32))
              have hI_v255 : IM v255 := by
                rw [ev255]
                first | exact hI_v253.um7 (by omega) (by omega) | exact hI_v253.u07
              have := i_eq (show v255 30 0 8 = v253 30 0 8 by rw [ev255]; exact up3_t (by decide))
              have := i_eq (show v255 30 0 11 = v253 30 0 11 by rw [ev255]; exact up3_t (by decide))
              have := i_eq (show v255 30 0 12 = v253 30 0 12 by rw [ev255]; exact up3_t (by decide))
              (try have := i_eq (show v255 37 0 3 = v253 37 0 3 by rw [ev255]; exact up3_j (tcne (by omega) (by omega))))
              (try have := i_eq (show v255 37 0 4 = v253 37 0 4 by rw [ev255]; exact up3_j (tcne (by omega) (by omega))))
              have : ((v255 36 0 3).toInt = 0 ∧ (v255 36 0 4).toInt = 0) ∨ (0 < (v255 36 0 3).toInt ∧ 0 < (v255 36 0 4).toInt) := hI_v255.2.1
              refine ok_let (fun v256 ev256 => ?_)
              have hI_v256 : IM v256 := by
                rw [ev256]
                refine hI_v255.upo (by decide) ?_
                show (0 : Int) ≤ Int32.toInt ((v255 37 0 3) + 1) ∧ Int32.toInt ((v255 37 0 3) + 1) ≤ (6 : Int)
                have : (0 : Int) ≤ (v255 37 0 3).toInt ∧ (v255 37 0 3).toInt ≤ (6 : Int) := hI_v255.1 37 0 3
                have : (1 : Int32).toInt = 1 := (by decide)
                have := i_bd (v255 37 0 3)
                (first | have := sp_addx (v255 37 0 3) (1 : Int32) (by omega) | obtain ⟨k236, hk236⟩ := sp_add (v255 37 0 3) (1 : Int32))
                omega
              have := i_eq (show v256 30 0 8 = v255 30 0 8 by rw [ev256]; exact up3_t (by decide))
              have := i_eq (show v256 30 0 11 = v255 30 0 11 by rw [ev256]; exact up3_t (by decide))
              have := i_eq (show v256 30 0 12 = v255 30 0 12 by rw [ev256]; exact up3_t (by decide))
              have := i_eq (show v256 37 0 3 = ((v255 37 0 3) + 1) by rw [ev256]; exact up3_s)
              have : (0 : Int) ≤ (v255 37 0 3).toInt ∧ (v255 37 0 3).toInt ≤ (6 : Int) := hI_v255.1 37 0 3
              have : (1 : Int32).toInt = 1 := (by decide)
              have := i_bd (v255 37 0 3)
              (first | have := sp_addx (v255 37 0 3) (1 : Int32) (by omega) | obtain ⟨k237, hk237⟩ := sp_add (v255 37 0 3) (1 : Int32))
              have := i_eq (show v256 37 0 4 = v255 37 0 4 by rw [ev256]; exact up3_j (by decide))
              have : ((v256 36 0 3).toInt = 0 ∧ (v256 36 0 4).toInt = 0) ∨ (0 < (v256 36 0 3).toInt ∧ 0 < (v256 36 0 4).toInt) := hI_v256.2.1
              refine ok_some ?_
              show IM v256 ∧ (Int32.toInt (v256 37 0 4) = Int32.toInt (v 37 0 4)) ∧ ((Int32.toInt (v 30 0 8) < 0 ∧ Int32.toInt (v256 37 0 3) = Int32.toInt (v 37 0 3) + 1) ∨ 0 ≤ Int32.toInt (v256 30 0 8))
              refine ⟨hI_v256, ?_⟩
              omega
          · skip
            have ic242 := i_ne c242
            have : (0 : Int) ≤ (v241 30 0 11).toInt ∧ (v241 30 0 11).toInt ≤ (5 : Int) := hI_v241.1 30 0 11
            have : (4 : Int32).toInt = 4 := (by decide)
            refine ok_kb2 (k_X8_takes v241 hI_v241 0 1 ) (fun r258 v259 hr258 => ?_)
            have hr258 : IM v259 ∧ (Int32.toInt (v259 37 0 3) = Int32.toInt (v241 37 0 3)) ∧ (Int32.toInt (v259 37 0 4) = Int32.toInt (v241 37 0 4)) ∧ (Int32.toInt (v241 30 0 8) < 0 ∨ 0 ≤ Int32.toInt (v259 30 0 8)) ∧ (¬ Int32.toInt 0 = 0 ∨ 0 ≤ Int32.toInt (v259 30 0 8)) ∧ (Int32.toInt r258 = 0 ∨ (Int32.toInt r258 = Int32.toInt (v241 30 0 12) ∧ ¬ Int32.toInt 0 = 0)) := hr258
            obtain ⟨hI_v259, hr258⟩ := hr258
            have : ((v259 36 0 3).toInt = 0 ∧ (v259 36 0 4).toInt = 0) ∨ (0 < (v259 36 0 3).toInt ∧ 0 < (v259 36 0 4).toInt) := hI_v259.2.1
            have : (0 : Int) ≤ (v241 37 0 3).toInt ∧ (v241 37 0 3).toInt ≤ (6 : Int) := hI_v241.1 37 0 3
            have : (0 : Int) ≤ (v241 37 0 4).toInt ∧ (v241 37 0 4).toInt ≤ (4 : Int) := hI_v241.1 37 0 4
            have : (-1 : Int) ≤ (v241 30 0 8).toInt ∧ (v241 30 0 8).toInt ≤ (100 : Int) := hI_v241.1 30 0 8
            have : (0 : Int32).toInt = 0 := (by decide)
            have : (1 : Int32).toInt = 1 := (by decide)
            refine ok_bind (k_X8_isWell v259 hI_v259  ) (fun r261 hr261 => ?_)
            have hr261 : (0 : Int) ≤ Int32.toInt r261 ∧ Int32.toInt r261 ≤ (1 : Int) ∧ ((Int32.toInt r261 = 0 ∧ 0 ≤ Int32.toInt (v259 30 0 8)) ∨ (Int32.toInt r261 = 1 ∧ Int32.toInt (v259 30 0 8) < 0)) := hr261
            have : (-1 : Int) ≤ (v259 30 0 8).toInt ∧ (v259 30 0 8).toInt ≤ (100 : Int) := hI_v259.1 30 0 8
            refine ok_ite _ (fun c263 => ?_) (fun c263 => ?_)
            · skip
              have ic263 := i_eq c263
              have : (0 : Int32).toInt = 0 := (by decide)
              refine ok_some ?_
              show IM v259 ∧ (Int32.toInt (v259 37 0 4) = Int32.toInt (v 37 0 4)) ∧ ((Int32.toInt (v 30 0 8) < 0 ∧ Int32.toInt (v259 37 0 3) = Int32.toInt (v 37 0 3) + 1) ∨ 0 ≤ Int32.toInt (v259 30 0 8))
              refine ⟨hI_v259, ?_⟩
              omega
            · skip
              have ic263 := i_ne c263
              have : (0 : Int32).toInt = 0 := (by decide)
              refine ok_grd _ ?_ ?_
              · skip
                exact gr (by omega) (by omega)
              refine ok_let (fun v265 ev265 => ?_)
              have hI_v265 : IM v265 := by
                rw [ev265]
                first | exact hI_v259.um7 (by omega) (by omega) | exact hI_v259.u07
              have := i_eq (show v265 30 0 8 = v259 30 0 8 by rw [ev265]; exact up3_t (by decide))
              have := i_eq (show v265 30 0 11 = v259 30 0 11 by rw [ev265]; exact up3_t (by decide))
              have := i_eq (show v265 30 0 12 = v259 30 0 12 by rw [ev265]; exact up3_t (by decide))
              (try have := i_eq (show v265 37 0 3 = v259 37 0 3 by rw [ev265]; exact up3_j (tcne (by omega) (by omega))))
              (try have := i_eq (show v265 37 0 4 = v259 37 0 4 by rw [ev265]; exact up3_j (tcne (by omega) (by omega))))
              have : ((v265 36 0 3).toInt = 0 ∧ (v265 36 0 4).toInt = 0) ∨ (0 < (v265 36 0 3).toInt ∧ 0 < (v265 36 0 4).toInt) := hI_v265.2.1
              refine ok_grd _ ?_ ?_
              · skip
                have : (1 : Int32).toInt = 1 := (by decide)
                have := i_bd x224
                (first | have := sp_addx x224 (1 : Int32) (by omega) | obtain ⟨k238, hk238⟩ := sp_add x224 (1 : Int32))
                exact gr (by omega) (by omega)
              refine ok_let (fun v267 ev267 => ?_)
              have : (1 : Int32).toInt = 1 := (by decide)
              have := i_bd x224
              (first | have := sp_addx x224 (1 : Int32) (by omega) | obtain ⟨k239, hk239⟩ := sp_add x224 (1 : Int32))
              have hI_v267 : IM v267 := by
                rw [ev267]
                first | exact hI_v265.um7 (by omega) (by omega) | exact hI_v265.u07
              have := i_eq (show v267 30 0 8 = v265 30 0 8 by rw [ev267]; exact up3_t (by decide))
              have := i_eq (show v267 30 0 11 = v265 30 0 11 by rw [ev267]; exact up3_t (by decide))
              have := i_eq (show v267 30 0 12 = v265 30 0 12 by rw [ev267]; exact up3_t (by decide))
              (try have := i_eq (show v267 37 0 3 = v265 37 0 3 by rw [ev267]; exact up3_j (tcne (by omega) (by omega))))
              (try have := i_eq (show v267 37 0 4 = v265 37 0 4 by rw [ev267]; exact up3_j (tcne (by omega) (by omega))))
              have : ((v267 36 0 3).toInt = 0 ∧ (v267 36 0 4).toInt = 0) ∨ (0 < (v267 36 0 3).toInt ∧ 0 < (v267 36 0 4).toInt) := hI_v267.2.1
              refine ok_grd _ ?_ ?_
              · skip
                have : (2 : Int32).toInt = 2 := (by decide)
                have := i_bd x224
                (first | have := sp_addx x224 (2 : Int32) (by omega) | obtain ⟨k240, hk240⟩ := sp_add x224 (2 : Int32))
                exact gr (by omega) (by omega)
              refine ok_let (fun v269 ev269 => ?_)
              have : (2 : Int32).toInt = 2 := (by decide)
              have := i_bd x224
              (first | have := sp_addx x224 (2 : Int32) (by omega) | obtain ⟨k241, hk241⟩ := sp_add x224 (2 : Int32))
              have : (97 : Int32).toInt = 97 := (by decide)
              have := i_bd r240
              (first | have := sp_subx r240 (97 : Int32) (by omega) | obtain ⟨k242, hk242⟩ := sp_sub r240 (97 : Int32))
              have hI_v269 : IM v269 := by
                rw [ev269]
                first | exact hI_v267.um7 (by omega) (by omega) | exact hI_v267.u07
              have := i_eq (show v269 30 0 8 = v267 30 0 8 by rw [ev269]; exact up3_t (by decide))
              have := i_eq (show v269 30 0 11 = v267 30 0 11 by rw [ev269]; exact up3_t (by decide))
              have := i_eq (show v269 30 0 12 = v267 30 0 12 by rw [ev269]; exact up3_t (by decide))
              (try have := i_eq (show v269 37 0 3 = v267 37 0 3 by rw [ev269]; exact up3_j (tcne (by omega) (by omega))))
              (try have := i_eq (show v269 37 0 4 = v267 37 0 4 by rw [ev269]; exact up3_j (tcne (by omega) (by omega))))
              have : ((v269 36 0 3).toInt = 0 ∧ (v269 36 0 4).toInt = 0) ∨ (0 < (v269 36 0 3).toInt ∧ 0 < (v269 36 0 4).toInt) := hI_v269.2.1
              refine ok_let (fun v270 ev270 => ?_)
              have hI_v270 : IM v270 := by
                rw [ev270]
                refine hI_v269.upo (by decide) ?_
                show (0 : Int) ≤ Int32.toInt ((v269 37 0 3) + 1) ∧ Int32.toInt ((v269 37 0 3) + 1) ≤ (6 : Int)
                have : (0 : Int) ≤ (v269 37 0 3).toInt ∧ (v269 37 0 3).toInt ≤ (6 : Int) := hI_v269.1 37 0 3
                have : (1 : Int32).toInt = 1 := (by decide)
                have := i_bd (v269 37 0 3)
                (first | have := sp_addx (v269 37 0 3) (1 : Int32) (by omega) | obtain ⟨k243, hk243⟩ := sp_add (v269 37 0 3) (1 : Int32))
                omega
              have := i_eq (show v270 30 0 8 = v269 30 0 8 by rw [ev270]; exact up3_t (by decide))
              have := i_eq (show v270 30 0 11 = v269 30 0 11 by rw [ev270]; exact up3_t (by decide))
              have := i_eq (show v270 30 0 12 = v269 30 0 12 by rw [ev270]; exact up3_t (by decide))
              have := i_eq (show v270 37 0 3 = ((v269 37 0 3) + 1) by rw [ev270]; exact up3_s)
              have : (0 : Int) ≤ (v269 37 0 3).toInt ∧ (v269 37 0 3).toInt ≤ (6 : Int) := hI_v269.1 37 0 3
              have : (1 : Int32).toInt = 1 := (by decide)
              have := i_bd (v269 37 0 3)
              (first | have := sp_addx (v269 37 0 3) (1 : Int32) (by omega) | obtain ⟨k244, hk244⟩ := sp_add (v269 37 0 3) (1 : Int32))
              have := i_eq (show v270 37 0 4 = v269 37 0 4 by rw [ev270]; exact up3_j (by decide))
              have : ((v270 36 0 3).toInt = 0 ∧ (v270 36 0 4).toInt = 0) ∨ (0 < (v270 36 0 3).toInt ∧ 0 < (v270 36 0 4).toInt) := hI_v270.2.1
              refine ok_some ?_
              show IM v270 ∧ (Int32.toInt (v270 37 0 4) = Int32.toInt (v 37 0 4)) ∧ ((Int32.toInt (v 30 0 8) < 0 ∧ Int32.toInt (v270 37 0 3) = Int32.toInt (v 37 0 3) + 1) ∨ 0 ≤ Int32.toInt (v270 30 0 8))
              refine ⟨hI_v270, ?_⟩
              omega
        · skip
          have ic238 := i_ne c238
          have : (0 : Int32).toInt = 0 := (by decide)
          refine ok_kb2 (k_X8_takes v230 hI_v230 0 2 ) (fun r272 v273 hr272 => ?_)
          have hr272 : IM v273 ∧ (Int32.toInt (v273 37 0 3) = Int32.toInt (v230 37 0 3)) ∧ (Int32.toInt (v273 37 0 4) = Int32.toInt (v230 37 0 4)) ∧ (Int32.toInt (v230 30 0 8) < 0 ∨ 0 ≤ Int32.toInt (v273 30 0 8)) ∧ (¬ Int32.toInt 0 = 0 ∨ 0 ≤ Int32.toInt (v273 30 0 8)) ∧ (Int32.toInt r272 = 0 ∨ (Int32.toInt r272 = Int32.toInt (v230 30 0 12) ∧ ¬ Int32.toInt 0 = 0)) := hr272
          obtain ⟨hI_v273, hr272⟩ := hr272
          have : ((v273 36 0 3).toInt = 0 ∧ (v273 36 0 4).toInt = 0) ∨ (0 < (v273 36 0 3).toInt ∧ 0 < (v273 36 0 4).toInt) := hI_v273.2.1
          have : (0 : Int) ≤ (v230 37 0 3).toInt ∧ (v230 37 0 3).toInt ≤ (6 : Int) := hI_v230.1 37 0 3
          have : (0 : Int) ≤ (v230 37 0 4).toInt ∧ (v230 37 0 4).toInt ≤ (4 : Int) := hI_v230.1 37 0 4
          have : (-1 : Int) ≤ (v230 30 0 8).toInt ∧ (v230 30 0 8).toInt ≤ (100 : Int) := hI_v230.1 30 0 8
          have : (0 : Int32).toInt = 0 := (by decide)
          have : (2 : Int32).toInt = 2 := (by decide)
          refine ok_ite _ (fun c274 => ?_) (fun c274 => ?_)
          · skip
            have ic274 := i_eq c274
            have : (0 : Int) ≤ (v273 30 0 11).toInt ∧ (v273 30 0 11).toInt ≤ (5 : Int) := hI_v273.1 30 0 11
            have : (4 : Int32).toInt = 4 := (by decide)
            refine ok_kb2 (k_X8_takes v273 hI_v273 1 1 ) (fun r276 v277 hr276 => ?_)
            have hr276 : IM v277 ∧ (Int32.toInt (v277 37 0 3) = Int32.toInt (v273 37 0 3)) ∧ (Int32.toInt (v277 37 0 4) = Int32.toInt (v273 37 0 4)) ∧ (Int32.toInt (v273 30 0 8) < 0 ∨ 0 ≤ Int32.toInt (v277 30 0 8)) ∧ (¬ Int32.toInt 1 = 0 ∨ 0 ≤ Int32.toInt (v277 30 0 8)) ∧ (Int32.toInt r276 = 0 ∨ (Int32.toInt r276 = Int32.toInt (v273 30 0 12) ∧ ¬ Int32.toInt 1 = 0)) := hr276
            obtain ⟨hI_v277, hr276⟩ := hr276
            have : ((v277 36 0 3).toInt = 0 ∧ (v277 36 0 4).toInt = 0) ∨ (0 < (v277 36 0 3).toInt ∧ 0 < (v277 36 0 4).toInt) := hI_v277.2.1
            have : (0 : Int) ≤ (v273 37 0 3).toInt ∧ (v273 37 0 3).toInt ≤ (6 : Int) := hI_v273.1 37 0 3
            have : (0 : Int) ≤ (v273 37 0 4).toInt ∧ (v273 37 0 4).toInt ≤ (4 : Int) := hI_v273.1 37 0 4
            have : (-1 : Int) ≤ (v273 30 0 8).toInt ∧ (v273 30 0 8).toInt ≤ (100 : Int) := hI_v273.1 30 0 8
            have : (1 : Int32).toInt = 1 := (by decide)
            refine ok_bind (k_X8_isWell v277 hI_v277  ) (fun r279 hr279 => ?_)
            have hr279 : (0 : Int) ≤ Int32.toInt r279 ∧ Int32.toInt r279 ≤ (1 : Int) ∧ ((Int32.toInt r279 = 0 ∧ 0 ≤ Int32.toInt (v277 30 0 8)) ∨ (Int32.toInt r279 = 1 ∧ Int32.toInt (v277 30 0 8) < 0)) := hr279
            have : (-1 : Int) ≤ (v277 30 0 8).toInt ∧ (v277 30 0 8).toInt ≤ (100 : Int) := hI_v277.1 30 0 8
            refine ok_ite _ (fun c281 => ?_) (fun c281 => ?_)
            · skip
              have ic281 := i_eq c281
              have : (0 : Int32).toInt = 0 := (by decide)
              refine ok_some ?_
              show IM v277 ∧ (Int32.toInt (v277 37 0 4) = Int32.toInt (v 37 0 4)) ∧ ((Int32.toInt (v 30 0 8) < 0 ∧ Int32.toInt (v277 37 0 3) = Int32.toInt (v 37 0 3) + 1) ∨ 0 ≤ Int32.toInt (v277 30 0 8))
              refine ⟨hI_v277, ?_⟩
              omega
            · skip
              have ic281 := i_ne c281
              have : (0 : Int32).toInt = 0 := (by decide)
              refine ok_grd _ ?_ ?_
              · skip
                exact gr (by omega) (by omega)
              refine ok_let (fun v283 ev283 => ?_)
              have hI_v283 : IM v283 := by
                rw [ev283]
                first | exact hI_v277.um7 (by omega) (by omega) | exact hI_v277.u07
              have := i_eq (show v283 30 0 8 = v277 30 0 8 by rw [ev283]; exact up3_t (by decide))
              have := i_eq (show v283 30 0 11 = v277 30 0 11 by rw [ev283]; exact up3_t (by decide))
              have := i_eq (show v283 30 0 12 = v277 30 0 12 by rw [ev283]; exact up3_t (by decide))
              (try have := i_eq (show v283 37 0 3 = v277 37 0 3 by rw [ev283]; exact up3_j (tcne (by omega) (by omega))))
              (try have := i_eq (show v283 37 0 4 = v277 37 0 4 by rw [ev283]; exact up3_j (tcne (by omega) (by omega))))
              have : ((v283 36 0 3).toInt = 0 ∧ (v283 36 0 4).toInt = 0) ∨ (0 < (v283 36 0 3).toInt ∧ 0 < (v283 36 0 4).toInt) := hI_v283.2.1
              refine ok_grd _ ?_ ?_
              · skip
                have : (1 : Int32).toInt = 1 := (by decide)
                have := i_bd x224
                (first | have := sp_addx x224 (1 : Int32) (by omega) | obtain ⟨k245, hk245⟩ := sp_add x224 (1 : Int32))
                exact gr (by omega) (by omega)
              refine ok_let (fun v285 ev285 => ?_)
              have : (1 : Int32).toInt = 1 := (by decide)
              have := i_bd x224
              (first | have := sp_addx x224 (1 : Int32) (by omega) | obtain ⟨k246, hk246⟩ := sp_add x224 (1 : Int32))
              have hI_v285 : IM v285 := by
                rw [ev285]
                first | exact hI_v283.um7 (by omega) (by omega) | exact hI_v283.u07
              have := i_eq (show v285 30 0 8 = v283 30 0 8 by rw [ev285]; exact up3_t (by decide))
              have := i_eq (show v285 30 0 11 = v283 30 0 11 by rw [ev285]; exact up3_t (by decide))
              have := i_eq (show v285 30 0 12 = v283 30 0 12 by rw [ev285]; exact up3_t (by decide))
              (try have := i_eq (show v285 37 0 3 = v283 37 0 3 by rw [ev285]; exact up3_j (tcne (by omega) (by omega))))
              (try have := i_eq (show v285 37 0 4 = v283 37 0 4 by rw [ev285]; exact up3_j (tcne (by omega) (by omega))))
              have : ((v285 36 0 3).toInt = 0 ∧ (v285 36 0 4).toInt = 0) ∨ (0 < (v285 36 0 3).toInt ∧ 0 < (v285 36 0 4).toInt) := hI_v285.2.1
              refine ok_grd _ ?_ ?_
              · skip
                have : (2 : Int32).toInt = 2 := (by decide)
                have := i_bd x224
                (first | have := sp_addx x224 (2 : Int32) (by omega) | obtain ⟨k247, hk247⟩ := sp_add x224 (2 : Int32))
                exact gr (by omega) (by omega)
              refine ok_let (fun v287 ev287 => ?_)
              have : (2 : Int32).toInt = 2 := (by decide)
              have := i_bd x224
              (first | have := sp_addx x224 (2 : Int32) (by omega) | obtain ⟨k248, hk248⟩ := sp_add x224 (2 : Int32))
              have : (97 : Int32).toInt = 97 := (by decide)
              have := i_bd r272
              (first | have := sp_subx r272 (97 : Int32) (by omega) | obtain ⟨k249, hk249⟩ := sp_sub r272 (97 : Int32))
              have hI_v287 : IM v287 := by
                rw [ev287]
                first | exact hI_v285.um7 (by omega) (by omega) | exact hI_v285.u07
              have := i_eq (show v287 30 0 8 = v285 30 0 8 by rw [ev287]; exact up3_t (by decide))
              have := i_eq (show v287 30 0 11 = v285 30 0 11 by rw [ev287]; exact up3_t (by decide))
              have := i_eq (show v287 30 0 12 = v285 30 0 12 by rw [ev287]; exact up3_t (by decide))
              (try have := i_eq (show v287 37 0 3 = v285 37 0 3 by rw [ev287]; exact up3_j (tcne (by omega) (by omega))))
              (try have := i_eq (show v287 37 0 4 = v285 37 0 4 by rw [ev287]; exact up3_j (tcne (by omega) (by omega))))
              have : ((v287 36 0 3).toInt = 0 ∧ (v287 36 0 4).toInt = 0) ∨ (0 < (v287 36 0 3).toInt ∧ 0 < (v287 36 0 4).toInt) := hI_v287.2.1
              refine ok_let (fun v288 ev288 => ?_)
              have hI_v288 : IM v288 := by
                rw [ev288]
                refine hI_v287.upo (by decide) ?_
                show (0 : Int) ≤ Int32.toInt ((v287 37 0 3) + 1) ∧ Int32.toInt ((v287 37 0 3) + 1) ≤ (6 : Int)
                have : (0 : Int) ≤ (v287 37 0 3).toInt ∧ (v287 37 0 3).toInt ≤ (6 : Int) := hI_v287.1 37 0 3
                have : (1 : Int32).toInt = 1 := (by decide)
                have := i_bd (v287 37 0 3)
                (first | have := sp_addx (v287 37 0 3) (1 : Int32) (by omega) | obtain ⟨k250, hk250⟩ := sp_add (v287 37 0 3) (1 : Int32))
                omega
              have := i_eq (show v288 30 0 8 = v287 30 0 8 by rw [ev288]; exact up3_t (by decide))
              have := i_eq (show v288 30 0 11 = v287 30 0 11 by rw [ev288]; exact up3_t (by decide))
              have := i_eq (show v288 30 0 12 = v287 30 0 12 by rw [ev288]; exact up3_t (by decide))
              have := i_eq (show v288 37 0 3 = ((v287 37 0 3) + 1) by rw [ev288]; exact up3_s)
              have : (0 : Int) ≤ (v287 37 0 3).toInt ∧ (v287 37 0 3).toInt ≤ (6 : Int) := hI_v287.1 37 0 3
              have : (1 : Int32).toInt = 1 := (by decide)
              have := i_bd (v287 37 0 3)
              (first | have := sp_addx (v287 37 0 3) (1 : Int32) (by omega) | obtain ⟨k251, hk251⟩ := sp_add (v287 37 0 3) (1 : Int32))
              have := i_eq (show v288 37 0 4 = v287 37 0 4 by rw [ev288]; exact up3_j (by decide))
              have : ((v288 36 0 3).toInt = 0 ∧ (v288 36 0 4).toInt = 0) ∨ (0 < (v288 36 0 3).toInt ∧ 0 < (v288 36 0 4).toInt) := hI_v288.2.1
              refine ok_some ?_
              show IM v288 ∧ (Int32.toInt (v288 37 0 4) = Int32.toInt (v 37 0 4)) ∧ ((Int32.toInt (v 30 0 8) < 0 ∧ Int32.toInt (v288 37 0 3) = Int32.toInt (v 37 0 3) + 1) ∨ 0 ≤ Int32.toInt (v288 30 0 8))
              refine ⟨hI_v288, ?_⟩
              omega
          · skip
            have ic274 := i_ne c274
            have : (0 : Int) ≤ (v273 30 0 11).toInt ∧ (v273 30 0 11).toInt ≤ (5 : Int) := hI_v273.1 30 0 11
            have : (4 : Int32).toInt = 4 := (by decide)
            refine ok_kb2 (k_X8_takes v273 hI_v273 0 1 ) (fun r290 v291 hr290 => ?_)
            have hr290 : IM v291 ∧ (Int32.toInt (v291 37 0 3) = Int32.toInt (v273 37 0 3)) ∧ (Int32.toInt (v291 37 0 4) = Int32.toInt (v273 37 0 4)) ∧ (Int32.toInt (v273 30 0 8) < 0 ∨ 0 ≤ Int32.toInt (v291 30 0 8)) ∧ (¬ Int32.toInt 0 = 0 ∨ 0 ≤ Int32.toInt (v291 30 0 8)) ∧ (Int32.toInt r290 = 0 ∨ (Int32.toInt r290 = Int32.toInt (v273 30 0 12) ∧ ¬ Int32.toInt 0 = 0)) := hr290
            obtain ⟨hI_v291, hr290⟩ := hr290
            have : ((v291 36 0 3).toInt = 0 ∧ (v291 36 0 4).toInt = 0) ∨ (0 < (v291 36 0 3).toInt ∧ 0 < (v291 36 0 4).toInt) := hI_v291.2.1
            have : (0 : Int) ≤ (v273 37 0 3).toInt ∧ (v273 37 0 3).toInt ≤ (6 : Int) := hI_v273.1 37 0 3
            have : (0 : Int) ≤ (v273 37 0 4).toInt ∧ (v273 37 0 4).toInt ≤ (4 : Int) := hI_v273.1 37 0 4
            have : (-1 : Int) ≤ (v273 30 0 8).toInt ∧ (v273 30 0 8).toInt ≤ (100 : Int) := hI_v273.1 30 0 8
            have : (0 : Int32).toInt = 0 := (by decide)
            have : (1 : Int32).toInt = 1 := (by decide)
            refine ok_bind (k_X8_isWell v291 hI_v291  ) (fun r293 hr293 => ?_)
            have hr293 : (0 : Int) ≤ Int32.toInt r293 ∧ Int32.toInt r293 ≤ (1 : Int) ∧ ((Int32.toInt r293 = 0 ∧ 0 ≤ Int32.toInt (v291 30 0 8)) ∨ (Int32.toInt r293 = 1 ∧ Int32.toInt (v291 30 0 8) < 0)) := hr293
            have : (-1 : Int) ≤ (v291 30 0 8).toInt ∧ (v291 30 0 8).toInt ≤ (100 : Int) := hI_v291.1 30 0 8
            refine ok_ite _ (fun c295 => ?_) (fun c295 => ?_)
            · skip
              have ic295 := i_eq c295
              have : (0 : Int32).toInt = 0 := (by decide)
              refine ok_some ?_
              show IM v291 ∧ (Int32.toInt (v291 37 0 4) = Int32.toInt (v 37 0 4)) ∧ ((Int32.toInt (v 30 0 8) < 0 ∧ Int32.toInt (v291 37 0 3) = Int32.toInt (v 37 0 3) + 1) ∨ 0 ≤ Int32.toInt (v291 30 0 8))
              refine ⟨hI_v291, ?_⟩
              omega
            · skip
              have ic295 := i_ne c295
              have : (0 : Int32).toInt = 0 := (by decide)
              refine ok_grd _ ?_ ?_
              · skip
                exact gr (by omega) (by omega)
              refine ok_let (fun v297 ev297 => ?_)
              have hI_v297 : IM v297 := by
                rw [ev297]
                first | exact hI_v291.um7 (by omega) (by omega) | exact hI_v291.u07
              have := i_eq (show v297 30 0 8 = v291 30 0 8 by rw [ev297]; exact up3_t (by decide))
              have := i_eq (show v297 30 0 11 = v291 30 0 11 by rw [ev297]; exact up3_t (by decide))
              have := i_eq (show v297 30 0 12 = v291 30 0 12 by rw [ev297]; exact up3_t (by decide))
              (try have := i_eq (show v297 37 0 3 = v291 37 0 3 by rw [ev297]; exact up3_j (tcne (by omega) (by omega))))
              (try have := i_eq (show v297 37 0 4 = v291 37 0 4 by rw [ev297]; exact up3_j (tcne (by omega) (by omega))))
              have : ((v297 36 0 3).toInt = 0 ∧ (v297 36 0 4).toInt = 0) ∨ (0 < (v297 36 0 3).toInt ∧ 0 < (v297 36 0 4).toInt) := hI_v297.2.1
              refine ok_grd _ ?_ ?_
              · skip
                have : (1 : Int32).toInt = 1 := (by decide)
                have := i_bd x224
                (first | have := sp_addx x224 (1 : Int32) (by omega) | obtain ⟨k252, hk252⟩ := sp_add x224 (1 : Int32))
                exact gr (by omega) (by omega)
              refine ok_let (fun v299 ev299 => ?_)
              have : (1 : Int32).toInt = 1 := (by decide)
              have := i_bd x224
              (first | have := sp_addx x224 (1 : Int32) (by omega) | obtain ⟨k253, hk253⟩ := sp_add x224 (1 : Int32))
              have hI_v299 : IM v299 := by
                rw [ev299]
                first | exact hI_v297.um7 (by omega) (by omega) | exact hI_v297.u07
              have := i_eq (show v299 30 0 8 = v297 30 0 8 by rw [ev299]; exact up3_t (by decide))
              have := i_eq (show v299 30 0 11 = v297 30 0 11 by rw [ev299]; exact up3_t (by decide))
              have := i_eq (show v299 30 0 12 = v297 30 0 12 by rw [ev299]; exact up3_t (by decide))
              (try have := i_eq (show v299 37 0 3 = v297 37 0 3 by rw [ev299]; exact up3_j (tcne (by omega) (by omega))))
              (try have := i_eq (show v299 37 0 4 = v297 37 0 4 by rw [ev299]; exact up3_j (tcne (by omega) (by omega))))
              have : ((v299 36 0 3).toInt = 0 ∧ (v299 36 0 4).toInt = 0) ∨ (0 < (v299 36 0 3).toInt ∧ 0 < (v299 36 0 4).toInt) := hI_v299.2.1
              refine ok_grd _ ?_ ?_
              · skip
                have : (2 : Int32).toInt = 2 := (by decide)
                have := i_bd x224
                (first | have := sp_addx x224 (2 : Int32) (by omega) | obtain ⟨k254, hk254⟩ := sp_add x224 (2 : Int32))
                exact gr (by omega) (by omega)
              refine ok_let (fun v301 ev301 => ?_)
              have : (2 : Int32).toInt = 2 := (by decide)
              have := i_bd x224
              (first | have := sp_addx x224 (2 : Int32) (by omega) | obtain ⟨k255, hk255⟩ := sp_add x224 (2 : Int32))
              have : (97 : Int32).toInt = 97 := (by decide)
              have := i_bd r272
              (first | have := sp_subx r272 (97 : Int32) (by omega) | obtain ⟨k256, hk256⟩ := sp_sub r272 (97 : Int32))
              have hI_v301 : IM v301 := by
                rw [ev301]
                first | exact hI_v299.um7 (by omega) (by omega) | exact hI_v299.u07
              have := i_eq (show v301 30 0 8 = v299 30 0 8 by rw [ev301]; exact up3_t (by decide))
              have := i_eq (show v301 30 0 11 = v299 30 0 11 by rw [ev301]; exact up3_t (by decide))
              have := i_eq (show v301 30 0 12 = v299 30 0 12 by rw [ev301]; exact up3_t (by decide))
              (try have := i_eq (show v301 37 0 3 = v299 37 0 3 by rw [ev301]; exact up3_j (tcne (by omega) (by omega))))
              (try have := i_eq (show v301 37 0 4 = v299 37 0 4 by rw [ev301]; exact up3_j (tcne (by omega) (by omega))))
              have : ((v301 36 0 3).toInt = 0 ∧ (v301 36 0 4).toInt = 0) ∨ (0 < (v301 36 0 3).toInt ∧ 0 < (v301 36 0 4).toInt) := hI_v301.2.1
              refine ok_let (fun v302 ev302 => ?_)
              have hI_v302 : IM v302 := by
                rw [ev302]
                refine hI_v301.upo (by decide) ?_
                show (0 : Int) ≤ Int32.toInt ((v301 37 0 3) + 1) ∧ Int32.toInt ((v301 37 0 3) + 1) ≤ (6 : Int)
                have : (0 : Int) ≤ (v301 37 0 3).toInt ∧ (v301 37 0 3).toInt ≤ (6 : Int) := hI_v301.1 37 0 3
                have : (1 : Int32).toInt = 1 := (by decide)
                have := i_bd (v301 37 0 3)
                (first | have := sp_addx (v301 37 0 3) (1 : Int32) (by omega) | obtain ⟨k257, hk257⟩ := sp_add (v301 37 0 3) (1 : Int32))
                omega
              have := i_eq (show v302 30 0 8 = v301 30 0 8 by rw [ev302]; exact up3_t (by decide))
              have := i_eq (show v302 30 0 11 = v301 30 0 11 by rw [ev302]; exact up3_t (by decide))
              have := i_eq (show v302 30 0 12 = v301 30 0 12 by rw [ev302]; exact up3_t (by decide))
              have := i_eq (show v302 37 0 3 = ((v301 37 0 3) + 1) by rw [ev302]; exact up3_s)
              have : (0 : Int) ≤ (v301 37 0 3).toInt ∧ (v301 37 0 3).toInt ≤ (6 : Int) := hI_v301.1 37 0 3
              have : (1 : Int32).toInt = 1 := (by decide)
              have := i_bd (v301 37 0 3)
              (first | have := sp_addx (v301 37 0 3) (1 : Int32) (by omega) | obtain ⟨k258, hk258⟩ := sp_add (v301 37 0 3) (1 : Int32))
              have := i_eq (show v302 37 0 4 = v301 37 0 4 by rw [ev302]; exact up3_j (by decide))
              have : ((v302 36 0 3).toInt = 0 ∧ (v302 36 0 4).toInt = 0) ∨ (0 < (v302 36 0 3).toInt ∧ 0 < (v302 36 0 4).toInt) := hI_v302.2.1
              refine ok_some ?_
              show IM v302 ∧ (Int32.toInt (v302 37 0 4) = Int32.toInt (v 37 0 4)) ∧ ((Int32.toInt (v 30 0 8) < 0 ∧ Int32.toInt (v302 37 0 3) = Int32.toInt (v 37 0 3) + 1) ∨ 0 ≤ Int32.toInt (v302 30 0 8))
              refine ⟨hI_v302, ?_⟩
              omega
      · skip
        have ic234 := i_ne c234
        have : (0 : Int32).toInt = 0 := (by decide)
        refine ok_ite _ (fun c303 => ?_) (fun c303 => ?_)
        · skip
          have ic303 := i_eq c303
          have : (0 : Int) ≤ (v230 30 0 11).toInt ∧ (v230 30 0 11).toInt ≤ (5 : Int) := hI_v230.1 30 0 11
          have : (1 : Int32).toInt = 1 := (by decide)
          refine ok_bind (k_X8_isTold v230 hI_v230 r226 r229 ((v230 30 0 12) - 97) ) (fun r305 hr305 => ?_)
          have hr305 : (0 : Int) ≤ Int32.toInt r305 ∧ Int32.toInt r305 ≤ (1 : Int) := hr305
          refine ok_ite _ (fun c307 => ?_) (fun c307 => ?_)
          · skip
            have ic307 := i_eq c307
            have : (0 : Int32).toInt = 0 := (by decide)
            refine ok_kb2 (k_X8_takes v230 hI_v230 1 2 ) (fun r309 v310 hr309 => ?_)
            have hr309 : IM v310 ∧ (Int32.toInt (v310 37 0 3) = Int32.toInt (v230 37 0 3)) ∧ (Int32.toInt (v310 37 0 4) = Int32.toInt (v230 37 0 4)) ∧ (Int32.toInt (v230 30 0 8) < 0 ∨ 0 ≤ Int32.toInt (v310 30 0 8)) ∧ (¬ Int32.toInt 1 = 0 ∨ 0 ≤ Int32.toInt (v310 30 0 8)) ∧ (Int32.toInt r309 = 0 ∨ (Int32.toInt r309 = Int32.toInt (v230 30 0 12) ∧ ¬ Int32.toInt 1 = 0)) := hr309
            obtain ⟨hI_v310, hr309⟩ := hr309
            have : ((v310 36 0 3).toInt = 0 ∧ (v310 36 0 4).toInt = 0) ∨ (0 < (v310 36 0 3).toInt ∧ 0 < (v310 36 0 4).toInt) := hI_v310.2.1
            have : (0 : Int) ≤ (v230 37 0 3).toInt ∧ (v230 37 0 3).toInt ≤ (6 : Int) := hI_v230.1 37 0 3
            have : (0 : Int) ≤ (v230 37 0 4).toInt ∧ (v230 37 0 4).toInt ≤ (4 : Int) := hI_v230.1 37 0 4
            have : (-1 : Int) ≤ (v230 30 0 8).toInt ∧ (v230 30 0 8).toInt ≤ (100 : Int) := hI_v230.1 30 0 8
            have : (1 : Int32).toInt = 1 := (by decide)
            have : (2 : Int32).toInt = 2 := (by decide)
            refine ok_ite _ (fun c311 => ?_) (fun c311 => ?_)
            · skip
              have ic311 := i_eq c311
              have : (0 : Int) ≤ (v310 30 0 11).toInt ∧ (v310 30 0 11).toInt ≤ (5 : Int) := hI_v310.1 30 0 11
              have : (4 : Int32).toInt = 4 := (by decide)
              refine ok_kb2 (k_X8_takes v310 hI_v310 1 1 ) (fun r313 v314 hr313 => ?_)
              have hr313 : IM v314 ∧ (Int32.toInt (v314 37 0 3) = Int32.toInt (v310 37 0 3)) ∧ (Int32.toInt (v314 37 0 4) = Int32.toInt (v310 37 0 4)) ∧ (Int32.toInt (v310 30 0 8) < 0 ∨ 0 ≤ Int32.toInt (v314 30 0 8)) ∧ (¬ Int32.toInt 1 = 0 ∨ 0 ≤ Int32.toInt (v314 30 0 8)) ∧ (Int32.toInt r313 = 0 ∨ (Int32.toInt r313 = Int32.toInt (v310 30 0 12) ∧ ¬ Int32.toInt 1 = 0)) := hr313
              obtain ⟨hI_v314, hr313⟩ := hr313
              have : ((v314 36 0 3).toInt = 0 ∧ (v314 36 0 4).toInt = 0) ∨ (0 < (v314 36 0 3).toInt ∧ 0 < (v314 36 0 4).toInt) := hI_v314.2.1
              have : (0 : Int) ≤ (v310 37 0 3).toInt ∧ (v310 37 0 3).toInt ≤ (6 : Int) := hI_v310.1 37 0 3
              have : (0 : Int) ≤ (v310 37 0 4).toInt ∧ (v310 37 0 4).toInt ≤ (4 : Int) := hI_v310.1 37 0 4
              have : (-1 : Int) ≤ (v310 30 0 8).toInt ∧ (v310 30 0 8).toInt ≤ (100 : Int) := hI_v310.1 30 0 8
              have : (1 : Int32).toInt = 1 := (by decide)
              refine ok_bind (k_X8_isWell v314 hI_v314  ) (fun r316 hr316 => ?_)
              have hr316 : (0 : Int) ≤ Int32.toInt r316 ∧ Int32.toInt r316 ≤ (1 : Int) ∧ ((Int32.toInt r316 = 0 ∧ 0 ≤ Int32.toInt (v314 30 0 8)) ∨ (Int32.toInt r316 = 1 ∧ Int32.toInt (v314 30 0 8) < 0)) := hr316
              have : (-1 : Int) ≤ (v314 30 0 8).toInt ∧ (v314 30 0 8).toInt ≤ (100 : Int) := hI_v314.1 30 0 8
              refine ok_ite _ (fun c318 => ?_) (fun c318 => ?_)
              · skip
                have ic318 := i_eq c318
                have : (0 : Int32).toInt = 0 := (by decide)
                refine ok_some ?_
                show IM v314 ∧ (Int32.toInt (v314 37 0 4) = Int32.toInt (v 37 0 4)) ∧ ((Int32.toInt (v 30 0 8) < 0 ∧ Int32.toInt (v314 37 0 3) = Int32.toInt (v 37 0 3) + 1) ∨ 0 ≤ Int32.toInt (v314 30 0 8))
                refine ⟨hI_v314, ?_⟩
                omega
              · skip
                have ic318 := i_ne c318
                have : (0 : Int32).toInt = 0 := (by decide)
                refine ok_grd _ ?_ ?_
                · skip
                  exact gr (by omega) (by omega)
                refine ok_let (fun v320 ev320 => ?_)
                have hI_v320 : IM v320 := by
                  rw [ev320]
                  first | exact hI_v314.um7 (by omega) (by omega) | exact hI_v314.u07
                have := i_eq (show v320 30 0 8 = v314 30 0 8 by rw [ev320]; exact up3_t (by decide))
                have := i_eq (show v320 30 0 11 = v314 30 0 11 by rw [ev320]; exact up3_t (by decide))
                have := i_eq (show v320 30 0 12 = v314 30 0 12 by rw [ev320]; exact up3_t (by decide))
                (try have := i_eq (show v320 37 0 3 = v314 37 0 3 by rw [ev320]; exact up3_j (tcne (by omega) (by omega))))
                (try have := i_eq (show v320 37 0 4 = v314 37 0 4 by rw [ev320]; exact up3_j (tcne (by omega) (by omega))))
                have : ((v320 36 0 3).toInt = 0 ∧ (v320 36 0 4).toInt = 0) ∨ (0 < (v320 36 0 3).toInt ∧ 0 < (v320 36 0 4).toInt) := hI_v320.2.1
                refine ok_grd _ ?_ ?_
                · skip
                  have : (1 : Int32).toInt = 1 := (by decide)
                  have := i_bd x224
                  (first | have := sp_addx x224 (1 : Int32) (by omega) | obtain ⟨k259, hk259⟩ := sp_add x224 (1 : Int32))
                  exact gr (by omega) (by omega)
                refine ok_let (fun v322 ev322 => ?_)
                have : (1 : Int32).toInt = 1 := (by decide)
                have := i_bd x224
                (first | have := sp_addx x224 (1 : Int32) (by omega) | obtain ⟨k260, hk260⟩ := sp_add x224 (1 : Int32))
                have hI_v322 : IM v322 := by
                  rw [ev322]
                  first | exact hI_v320.um7 (by omega) (by omega) | exact hI_v320.u07
                have := i_eq (show v322 30 0 8 = v320 30 0 8 by rw [ev322]; exact up3_t (by decide))
                have := i_eq (show v322 30 0 11 = v320 30 0 11 by rw [ev322]; exact up3_t (by decide))
                have := i_eq (show v322 30 0 12 = v320 30 0 12 by rw [ev322]; exact up3_t (by decide))
                (try have := i_eq (show v322 37 0 3 = v320 37 0 3 by rw [ev322]; exact up3_j (tcne (by omega) (by omega))))
                (try have := i_eq (show v322 37 0 4 = v320 37 0 4 by rw [ev322]; exact up3_j (tcne (by omega) (by omega))))
                have : ((v322 36 0 3).toInt = 0 ∧ (v322 36 0 4).toInt = 0) ∨ (0 < (v322 36 0 3).toInt ∧ 0 < (v322 36 0 4).toInt) := hI_v322.2.1
                refine ok_grd _ ?_ ?_
                · skip
                  have : (2 : Int32).toInt = 2 := (by decide)
                  have := i_bd x224
                  (first | have := sp_addx x224 (2 : Int32) (by omega) | obtain ⟨k261, hk261⟩ := sp_add x224 (2 : Int32))
                  exact gr (by omega) (by omega)
                refine ok_let (fun v324 ev324 => ?_)
                have : (2 : Int32).toInt = 2 := (by decide)
                have := i_bd x224
                (first | have := sp_addx x224 (2 : Int32) (by omega) | obtain ⟨k262, hk262⟩ := sp_add x224 (2 : Int32))
                have : (97 : Int32).toInt = 97 := (by decide)
                have := i_bd r309
                (first | have := sp_subx r309 (97 : Int32) (by omega) | obtain ⟨k263, hk263⟩ := sp_sub r309 (97 : Int32))
                have hI_v324 : IM v324 := by
                  rw [ev324]
                  first | exact hI_v322.um7 (by omega) (by omega) | exact hI_v322.u07
                have := i_eq (show v324 30 0 8 = v322 30 0 8 by rw [ev324]; exact up3_t (by decide))
                have := i_eq (show v324 30 0 11 = v322 30 0 11 by rw [ev324]; exact up3_t (by decide))
                have := i_eq (show v324 30 0 12 = v322 30 0 12 by rw [ev324]; exact up3_t (by decide))
                (try have := i_eq (show v324 37 0 3 = v322 37 0 3 by rw [ev324]; exact up3_j (tcne (by omega) (by omega))))
                (try have := i_eq (show v324 37 0 4 = v322 37 0 4 by rw [ev324]; exact up3_j (tcne (by omega) (by omega))))
                have : ((v324 36 0 3).toInt = 0 ∧ (v324 36 0 4).toInt = 0) ∨ (0 < (v324 36 0 3).toInt ∧ 0 < (v324 36 0 4).toInt) := hI_v324.2.1
                refine ok_let (fun v325 ev325 => ?_)
                have hI_v325 : IM v325 := by
                  rw [ev325]
                  refine hI_v324.upo (by decide) ?_
                  show (0 : Int) ≤ Int32.toInt ((v324 37 0 3) + 1) ∧ Int32.toInt ((v324 37 0 3) + 1) ≤ (6 : Int)
                  have : (0 : Int) ≤ (v324 37 0 3).toInt ∧ (v324 37 0 3).toInt ≤ (6 : Int) := hI_v324.1 37 0 3
                  have : (1 : Int32).toInt = 1 := (by decide)
                  have := i_bd (v324 37 0 3)
                  (first | have := sp_addx (v324 37 0 3) (1 : Int32) (by omega) | obtain ⟨k264, hk264⟩ := sp_add (v324 37 0 3) (1 : Int32))
                  omega
                have := i_eq (show v325 30 0 8 = v324 30 0 8 by rw [ev325]; exact up3_t (by decide))
                have := i_eq (show v325 30 0 11 = v324 30 0 11 by rw [ev325]; exact up3_t (by decide))
                have := i_eq (show v325 30 0 12 = v324 30 0 12 by rw [ev325]; exact up3_t (by decide))
                have := i_eq (show v325 37 0 3 = ((v324 37 0 3) + 1) by rw [ev325]; exact up3_s)
                have : (0 : Int) ≤ (v324 37 0 3).toInt ∧ (v324 37 0 3).toInt ≤ (6 : Int) := hI_v324.1 37 0 3
                have : (1 : Int32).toInt = 1 := (by decide)
                have := i_bd (v324 37 0 3)
                (first | have := sp_addx (v324 37 0 3) (1 : Int32) (by omega) | obtain ⟨k265, hk265⟩ := sp_add (v324 37 0 3) (1 : Int32))
                have := i_eq (show v325 37 0 4 = v324 37 0 4 by rw [ev325]; exact up3_j (by decide))
                have : ((v325 36 0 3).toInt = 0 ∧ (v325 36 0 4).toInt = 0) ∨ (0 < (v325 36 0 3).toInt ∧ 0 < (v325 36 0 4).toInt) := hI_v325.2.1
                refine ok_some ?_
                show IM v325 ∧ (Int32.toInt (v325 37 0 4) = Int32.toInt (v 37 0 4)) ∧ ((Int32.toInt (v 30 0 8) < 0 ∧ Int32.toInt (v325 37 0 3) = Int32.toInt (v 37 0 3) + 1) ∨ 0 ≤ Int32.toInt (v325 30 0 8))
                refine ⟨hI_v325, ?_⟩
                omega
            · skip
              have ic311 := i_ne c311
              have : (0 : Int) ≤ (v310 30 0 11).toInt ∧ (v310 30 0 11).toInt ≤ (5 : Int) := hI_v310.1 30 0 11
              have : (4 : Int32).toInt = 4 := (by decide)
              refine ok_kb2 (k_X8_takes v310 hI_v310 0 1 ) (fun r327 v328 hr327 => ?_)
              have hr327 : IM v328 ∧ (Int32.toInt (v328 37 0 3) = Int32.toInt (v310 37 0 3)) ∧ (Int32.toInt (v328 37 0 4) = Int32.toInt (v310 37 0 4)) ∧ (Int32.toInt (v310 30 0 8) < 0 ∨ 0 ≤ Int32.toInt (v328 30 0 8)) ∧ (¬ Int32.toInt 0 = 0 ∨ 0 ≤ Int32.toInt (v328 30 0 8)) ∧ (Int32.toInt r327 = 0 ∨ (Int32.toInt r327 = Int32.toInt (v310 30 0 12) ∧ ¬ Int32.toInt 0 = 0)) := hr327
              obtain ⟨hI_v328, hr327⟩ := hr327
              have : ((v328 36 0 3).toInt = 0 ∧ (v328 36 0 4).toInt = 0) ∨ (0 < (v328 36 0 3).toInt ∧ 0 < (v328 36 0 4).toInt) := hI_v328.2.1
              have : (0 : Int) ≤ (v310 37 0 3).toInt ∧ (v310 37 0 3).toInt ≤ (6 : Int) := hI_v310.1 37 0 3
              have : (0 : Int) ≤ (v310 37 0 4).toInt ∧ (v310 37 0 4).toInt ≤ (4 : Int) := hI_v310.1 37 0 4
              have : (-1 : Int) ≤ (v310 30 0 8).toInt ∧ (v310 30 0 8).toInt ≤ (100 : Int) := hI_v310.1 30 0 8
              have : (0 : Int32).toInt = 0 := (by decide)
              have : (1 : Int32).toInt = 1 := (by decide)
              refine ok_bind (k_X8_isWell v328 hI_v328  ) (fun r330 hr330 => ?_)
              have hr330 : (0 : Int) ≤ Int32.toInt r330 ∧ Int32.toInt r330 ≤ (1 : Int) ∧ ((Int32.toInt r330 = 0 ∧ 0 ≤ Int32.toInt (v328 30 0 8)) ∨ (Int32.toInt r330 = 1 ∧ Int32.toInt (v328 30 0 8) < 0)) := hr330
              have : (-1 : Int) ≤ (v328 30 0 8).toInt ∧ (v328 30 0 8).toInt ≤ (100 : Int) := hI_v328.1 30 0 8
              refine ok_ite _ (fun c332 => ?_) (fun c332 => ?_)
              · skip
                have ic332 := i_eq c332
                have : (0 : Int32).toInt = 0 := (by decide)
                refine ok_some ?_
                show IM v328 ∧ (Int32.toInt (v328 37 0 4) = Int32.toInt (v 37 0 4)) ∧ ((Int32.toInt (v 30 0 8) < 0 ∧ Int32.toInt (v328 37 0 3) = Int32.toInt (v 37 0 3) + 1) ∨ 0 ≤ Int32.toInt (v328 30 0 8))
                refine ⟨hI_v328, ?_⟩
                omega
              · skip
                have ic332 := i_ne c332
                have : (0 : Int32).toInt = 0 := (by decide)
                refine ok_grd _ ?_ ?_
                · skip
                  exact gr (by omega) (by omega)
                refine ok_let (fun v334 ev334 => ?_)
                have hI_v334 : IM v334 := by
                  rw [ev334]
                  first | exact hI_v328.um7 (by omega) (by omega) | exact hI_v328.u07
                have := i_eq (show v334 30 0 8 = v328 30 0 8 by rw [ev334]; exact up3_t (by decide))
                have := i_eq (show v334 30 0 11 = v328 30 0 11 by rw [ev334]; exact up3_t (by decide))
                have := i_eq (show v334 30 0 12 = v328 30 0 12 by rw [ev334]; exact up3_t (by decide))
                (try have := i_eq (show v334 37 0 3 = v328 37 0 3 by rw [ev334]; exact up3_j (tcne (by omega) (by omega))))
                (try have := i_eq (show v334 37 0 4 = v328 37 0 4 by rw [ev334]; exact up3_j (tcne (by omega) (by omega))))
                have : ((v334 36 0 3).toInt = 0 ∧ (v334 36 0 4).toInt = 0) ∨ (0 < (v334 36 0 3).toInt ∧ 0 < (v334 36 0 4).toInt) := hI_v334.2.1
                refine ok_grd _ ?_ ?_
                · skip
                  have : (1 : Int32).toInt = 1 := (by decide)
                  have := i_bd x224
                  (first | have := sp_addx x224 (1 : Int32) (by omega) | obtain ⟨k266, hk266⟩ := sp_add x224 (1 : Int32))
                  exact gr (by omega) (by omega)
                refine ok_let (fun v336 ev336 => ?_)
                have : (1 : Int32).toInt = 1 := (by decide)
                have := i_bd x224
                (first | have := sp_addx x224 (1 : Int32) (by omega) | obtain ⟨k267, hk267⟩ := sp_add x224 (1 : Int32))
                have hI_v336 : IM v336 := by
                  rw [ev336]
                  first | exact hI_v334.um7 (by omega) (by omega) | exact hI_v334.u07
                have := i_eq (show v336 30 0 8 = v334 30 0 8 by rw [ev336]; exact up3_t (by decide))
                have := i_eq (show v336 30 0 11 = v334 30 0 11 by rw [ev336]; exact up3_t (by decide))
                have := i_eq (show v336 30 0 12 = v334 30 0 12 by rw [ev336]; exact up3_t (by decide))
                (try have := i_eq (show v336 37 0 3 = v334 37 0 3 by rw [ev336]; exact up3_j (tcne (by omega) (by omega))))
                (try have := i_eq (show v336 37 0 4 = v334 37 0 4 by rw [ev336]; exact up3_j (tcne (by omega) (by omega))))
                have : ((v336 36 0 3).toInt = 0 ∧ (v336 36 0 4).toInt = 0) ∨ (0 < (v336 36 0 3).toInt ∧ 0 < (v336 36 0 4).toInt) := hI_v336.2.1
                refine ok_grd _ ?_ ?_
                · skip
                  have : (2 : Int32).toInt = 2 := (by decide)
                  have := i_bd x224
                  (first | have := sp_addx x224 (2 : Int32) (by omega) | obtain ⟨k268, hk268⟩ := sp_add x224 (2 : Int32))
                  exact gr (by omega) (by omega)
                refine ok_let (fun v338 ev338 => ?_)
                have : (2 : Int32).toInt = 2 := (by decide)
                have := i_bd x224
                (first | have := sp_addx x224 (2 : Int32) (by omega) | obtain ⟨k269, hk269⟩ := sp_add x224 (2 : Int32))
                have : (97 : Int32).toInt = 97 := (by decide)
                have := i_bd r309
                (first | have := sp_subx r309 (97 : Int32) (by omega) | obtain ⟨k270, hk270⟩ := sp_sub r309 (97 : Int32))
                have hI_v338 : IM v338 := by
                  rw [ev338]
                  first | exact hI_v336.um7 (by omega) (by omega) | exact hI_v336.u07
                have := i_eq (show v338 30 0 8 = v336 30 0 8 by rw [ev338]; exact up3_t (by decide))
                have := i_eq (show v338 30 0 11 = v336 30 0 11 by rw [ev338]; exact up3_t (by decide))
                have := i_eq (show v338 30 0 12 = v336 30 0 12 by rw [ev338]; exact up3_t (by decide))
                (try have := i_eq (show v338 37 0 3 = v336 37 0 3 by rw [ev338]; exact up3_j (tcne (by omega) (by omega))))
                (try have := i_eq (show v338 37 0 4 = v336 37 0 4 by rw [ev338]; exact up3_j (tcne (by omega) (by omega))))
                have : ((v338 36 0 3).toInt = 0 ∧ (v338 36 0 4).toInt = 0) ∨ (0 < (v338 36 0 3).toInt ∧ 0 < (v338 36 0 4).toInt) := hI_v338.2.1
                refine ok_let (fun v339 ev339 => ?_)
                have hI_v339 : IM v339 := by
                  rw [ev339]
                  refine hI_v338.upo (by decide) ?_
                  show (0 : Int) ≤ Int32.toInt ((v338 37 0 3) + 1) ∧ Int32.toInt ((v338 37 0 3) + 1) ≤ (6 : Int)
                  have : (0 : Int) ≤ (v338 37 0 3).toInt ∧ (v338 37 0 3).toInt ≤ (6 : Int) := hI_v338.1 37 0 3
                  have : (1 : Int32).toInt = 1 := (by decide)
                  have := i_bd (v338 37 0 3)
                  (first | have := sp_addx (v338 37 0 3) (1 : Int32) (by omega) | obtain ⟨k271, hk271⟩ := sp_add (v338 37 0 3) (1 : Int32))
                  omega
                have := i_eq (show v339 30 0 8 = v338 30 0 8 by rw [ev339]; exact up3_t (by decide))
                have := i_eq (show v339 30 0 11 = v338 30 0 11 by rw [ev339]; exact up3_t (by decide))
                have := i_eq (show v339 30 0 12 = v338 30 0 12 by rw [ev339]; exact up3_t (by decide))
                have := i_eq (show v339 37 0 3 = ((v338 37 0 3) + 1) by rw [ev339]; exact up3_s)
                have : (0 : Int) ≤ (v338 37 0 3).toInt ∧ (v338 37 0 3).toInt ≤ (6 : Int) := hI_v338.1 37 0 3
                have : (1 : Int32).toInt = 1 := (by decide)
                have := i_bd (v338 37 0 3)
                (first | have := sp_addx (v338 37 0 3) (1 : Int32) (by omega) | obtain ⟨k272, hk272⟩ := sp_add (v338 37 0 3) (1 : Int32))
                have := i_eq (show v339 37 0 4 = v338 37 0 4 by rw [ev339]; exact up3_j (by decide))
                have : ((v339 36 0 3).toInt = 0 ∧ (v339 36 0 4).toInt = 0) ∨ (0 < (v339 36 0 3).toInt ∧ 0 < (v339 36 0 4).toInt) := hI_v339.2.1
                refine ok_some ?_
                show IM v339 ∧ (Int32.toInt (v339 37 0 4) = Int32.toInt (v 37 0 4)) ∧ ((Int32.toInt (v 30 0 8) < 0 ∧ Int32.toInt (v339 37 0 3) = Int32.toInt (v 37 0 3) + 1) ∨ 0 ≤ Int32.toInt (v339 30 0 8))
                refine ⟨hI_v339, ?_⟩
                omega
          · skip
            have ic307 := i_ne c307
            have : (0 : Int32).toInt = 0 := (by decide)
            refine ok_kb2 (k_X8_takes v230 hI_v230 0 2 ) (fun r341 v342 hr341 => ?_)
            have hr341 : IM v342 ∧ (Int32.toInt (v342 37 0 3) = Int32.toInt (v230 37 0 3)) ∧ (Int32.toInt (v342 37 0 4) = Int32.toInt (v230 37 0 4)) ∧ (Int32.toInt (v230 30 0 8) < 0 ∨ 0 ≤ Int32.toInt (v342 30 0 8)) ∧ (¬ Int32.toInt 0 = 0 ∨ 0 ≤ Int32.toInt (v342 30 0 8)) ∧ (Int32.toInt r341 = 0 ∨ (Int32.toInt r341 = Int32.toInt (v230 30 0 12) ∧ ¬ Int32.toInt 0 = 0)) := hr341
            obtain ⟨hI_v342, hr341⟩ := hr341
            have : ((v342 36 0 3).toInt = 0 ∧ (v342 36 0 4).toInt = 0) ∨ (0 < (v342 36 0 3).toInt ∧ 0 < (v342 36 0 4).toInt) := hI_v342.2.1
            have : (0 : Int) ≤ (v230 37 0 3).toInt ∧ (v230 37 0 3).toInt ≤ (6 : Int) := hI_v230.1 37 0 3
            have : (0 : Int) ≤ (v230 37 0 4).toInt ∧ (v230 37 0 4).toInt ≤ (4 : Int) := hI_v230.1 37 0 4
            have : (-1 : Int) ≤ (v230 30 0 8).toInt ∧ (v230 30 0 8).toInt ≤ (100 : Int) := hI_v230.1 30 0 8
            have : (0 : Int32).toInt = 0 := (by decide)
            have : (2 : Int32).toInt = 2 := (by decide)
            refine ok_ite _ (fun c343 => ?_) (fun c343 => ?_)
            · skip
              have ic343 := i_eq c343
              have : (0 : Int) ≤ (v342 30 0 11).toInt ∧ (v342 30 0 11).toInt ≤ (5 : Int) := hI_v342.1 30 0 11
              have : (4 : Int32).toInt = 4 := (by decide)
              refine ok_kb2 (k_X8_takes v342 hI_v342 1 1 ) (fun r345 v346 hr345 => ?_)
              have hr345 : IM v346 ∧ (Int32.toInt (v346 37 0 3) = Int32.toInt (v342 37 0 3)) ∧ (Int32.toInt (v346 37 0 4) = Int32.toInt (v342 37 0 4)) ∧ (Int32.toInt (v342 30 0 8) < 0 ∨ 0 ≤ Int32.toInt (v346 30 0 8)) ∧ (¬ Int32.toInt 1 = 0 ∨ 0 ≤ Int32.toInt (v346 30 0 8)) ∧ (Int32.toInt r345 = 0 ∨ (Int32.toInt r345 = Int32.toInt (v342 30 0 12) ∧ ¬ Int32.toInt 1 = 0)) := hr345
              obtain ⟨hI_v346, hr345⟩ := hr345
              have : ((v346 36 0 3).toInt = 0 ∧ (v346 36 0 4).toInt = 0) ∨ (0 < (v346 36 0 3).toInt ∧ 0 < (v346 36 0 4).toInt) := hI_v346.2.1
              have : (0 : Int) ≤ (v342 37 0 3).toInt ∧ (v342 37 0 3).toInt ≤ (6 : Int) := hI_v342.1 37 0 3
              have : (0 : Int) ≤ (v342 37 0 4).toInt ∧ (v342 37 0 4).toInt ≤ (4 : Int) := hI_v342.1 37 0 4
              have : (-1 : Int) ≤ (v342 30 0 8).toInt ∧ (v342 30 0 8).toInt ≤ (100 : Int) := hI_v342.1 30 0 8
              have : (1 : Int32).toInt = 1 := (by decide)
              refine ok_bind (k_X8_isWell v346 hI_v346  ) (fun r348 hr348 => ?_)
              have hr348 : (0 : Int) ≤ Int32.toInt r348 ∧ Int32.toInt r348 ≤ (1 : Int) ∧ ((Int32.toInt r348 = 0 ∧ 0 ≤ Int32.toInt (v346 30 0 8)) ∨ (Int32.toInt r348 = 1 ∧ Int32.toInt (v346 30 0 8) < 0)) := hr348
              have : (-1 : Int) ≤ (v346 30 0 8).toInt ∧ (v346 30 0 8).toInt ≤ (100 : Int) := hI_v346.1 30 0 8
              refine ok_ite _ (fun c350 => ?_) (fun c350 => ?_)
              · skip
                have ic350 := i_eq c350
                have : (0 : Int32).toInt = 0 := (by decide)
                refine ok_some ?_
                show IM v346 ∧ (Int32.toInt (v346 37 0 4) = Int32.toInt (v 37 0 4)) ∧ ((Int32.toInt (v 30 0 8) < 0 ∧ Int32.toInt (v346 37 0 3) = Int32.toInt (v 37 0 3) + 1) ∨ 0 ≤ Int32.toInt (v346 30 0 8))
                refine ⟨hI_v346, ?_⟩
                omega
              · skip
                have ic350 := i_ne c350
                have : (0 : Int32).toInt = 0 := (by decide)
                refine ok_grd _ ?_ ?_
                · skip
                  exact gr (by omega) (by omega)
                refine ok_let (fun v352 ev352 => ?_)
                have hI_v352 : IM v352 := by
                  rw [ev352]
                  first | exact hI_v346.um7 (by omega) (by omega) | exact hI_v346.u07
                have := i_eq (show v352 30 0 8 = v346 30 0 8 by rw [ev352]; exact up3_t (by decide))
                have := i_eq (show v352 30 0 11 = v346 30 0 11 by rw [ev352]; exact up3_t (by decide))
                have := i_eq (show v352 30 0 12 = v346 30 0 12 by rw [ev352]; exact up3_t (by decide))
                (try have := i_eq (show v352 37 0 3 = v346 37 0 3 by rw [ev352]; exact up3_j (tcne (by omega) (by omega))))
                (try have := i_eq (show v352 37 0 4 = v346 37 0 4 by rw [ev352]; exact up3_j (tcne (by omega) (by omega))))
                have : ((v352 36 0 3).toInt = 0 ∧ (v352 36 0 4).toInt = 0) ∨ (0 < (v352 36 0 3).toInt ∧ 0 < (v352 36 0 4).toInt) := hI_v352.2.1
                refine ok_grd _ ?_ ?_
                · skip
                  have : (1 : Int32).toInt = 1 := (by decide)
                  have := i_bd x224
                  (first | have := sp_addx x224 (1 : Int32) (by omega) | obtain ⟨k273, hk273⟩ := sp_add x224 (1 : Int32))
                  exact gr (by omega) (by omega)
                refine ok_let (fun v354 ev354 => ?_)
                have : (1 : Int32).toInt = 1 := (by decide)
                have := i_bd x224
                (first | have := sp_addx x224 (1 : Int32) (by omega) | obtain ⟨k274, hk274⟩ := sp_add x224 (1 : Int32))
                have hI_v354 : IM v354 := by
                  rw [ev354]
                  first | exact hI_v352.um7 (by omega) (by omega) | exact hI_v352.u07
                have := i_eq (show v354 30 0 8 = v352 30 0 8 by rw [ev354]; exact up3_t (by decide))
                have := i_eq (show v354 30 0 11 = v352 30 0 11 by rw [ev354]; exact up3_t (by decide))
                have := i_eq (show v354 30 0 12 = v352 30 0 12 by rw [ev354]; exact up3_t (by decide))
                (try have := i_eq (show v354 37 0 3 = v352 37 0 3 by rw [ev354]; exact up3_j (tcne (by omega) (by omega))))
                (try have := i_eq (show v354 37 0 4 = v352 37 0 4 by rw [ev354]; exact up3_j (tcne (by omega) (by omega))))
                have : ((v354 36 0 3).toInt = 0 ∧ (v354 36 0 4).toInt = 0) ∨ (0 < (v354 36 0 3).toInt ∧ 0 < (v354 36 0 4).toInt) := hI_v354.2.1
                refine ok_grd _ ?_ ?_
                · skip
                  have : (2 : Int32).toInt = 2 := (by decide)
                  have := i_bd x224
                  (first | have := sp_addx x224 (2 : Int32) (by omega) | obtain ⟨k275, hk275⟩ := sp_add x224 (2 : Int32))
                  exact gr (by omega) (by omega)
                refine ok_let (fun v356 ev356 => ?_)
                have : (2 : Int32).toInt = 2 := (by decide)
                have := i_bd x224
                (first | have := sp_addx x224 (2 : Int32) (by omega) | obtain ⟨k276, hk276⟩ := sp_add x224 (2 : Int32))
                have : (97 : Int32).toInt = 97 := (by decide)
                have := i_bd r341
                (first | have := sp_subx r341 (97 : Int32) (by omega) | obtain ⟨k277, hk277⟩ := sp_sub r341 (97 : Int32))
                have hI_v356 : IM v356 := by
                  rw [ev356]
                  first | exact hI_v354.um7 (by omega) (by omega) | exact hI_v354.u07
                have := i_eq (show v356 30 0 8 = v354 30 0 8 by rw [ev356]; exact up3_t (by decide))
                have := i_eq (show v356 30 0 11 = v354 30 0 11 by rw [ev356]; exact up3_t (by decide))
                have := i_eq (show v356 30 0 12 = v354 30 0 12 by rw [ev356]; exact up3_t (by decide))
                (try have := i_eq (show v356 37 0 3 = v354 37 0 3 by rw [ev356]; exact up3_j (tcne (by omega) (by omega))))
                (try have := i_eq (show v356 37 0 4 = v354 37 0 4 by rw [ev356]; exact up3_j (tcne (by omega) (by omega))))
                have : ((v356 36 0 3).toInt = 0 ∧ (v356 36 0 4).toInt = 0) ∨ (0 < (v356 36 0 3).toInt ∧ 0 < (v356 36 0 4).toInt) := hI_v356.2.1
                refine ok_let (fun v357 ev357 => ?_)
                have hI_v357 : IM v357 := by
                  rw [ev357]
                  refine hI_v356.upo (by decide) ?_
                  show (0 : Int) ≤ Int32.toInt ((v356 37 0 3) + 1) ∧ Int32.toInt ((v356 37 0 3) + 1) ≤ (6 : Int)
                  have : (0 : Int) ≤ (v356 37 0 3).toInt ∧ (v356 37 0 3).toInt ≤ (6 : Int) := hI_v356.1 37 0 3
                  have : (1 : Int32).toInt = 1 := (by decide)
                  have := i_bd (v356 37 0 3)
                  (first | have := sp_addx (v356 37 0 3) (1 : Int32) (by omega) | obtain ⟨k278, hk278⟩ := sp_add (v356 37 0 3) (1 : Int32))
                  omega
                have := i_eq (show v357 30 0 8 = v356 30 0 8 by rw [ev357]; exact up3_t (by decide))
                have := i_eq (show v357 30 0 11 = v356 30 0 11 by rw [ev357]; exact up3_t (by decide))
                have := i_eq (show v357 30 0 12 = v356 30 0 12 by rw [ev357]; exact up3_t (by decide))
                have := i_eq (show v357 37 0 3 = ((v356 37 0 3) + 1) by rw [ev357]; exact up3_s)
                have : (0 : Int) ≤ (v356 37 0 3).toInt ∧ (v356 37 0 3).toInt ≤ (6 : Int) := hI_v356.1 37 0 3
                have : (1 : Int32).toInt = 1 := (by decide)
                have := i_bd (v356 37 0 3)
                (first | have := sp_addx (v356 37 0 3) (1 : Int32) (by omega) | obtain ⟨k279, hk279⟩ := sp_add (v356 37 0 3) (1 : Int32))
                have := i_eq (show v357 37 0 4 = v356 37 0 4 by rw [ev357]; exact up3_j (by decide))
                have : ((v357 36 0 3).toInt = 0 ∧ (v357 36 0 4).toInt = 0) ∨ (0 < (v357 36 0 3).toInt ∧ 0 < (v357 36 0 4).toInt) := hI_v357.2.1
                refine ok_some ?_
                show IM v357 ∧ (Int32.toInt (v357 37 0 4) = Int32.toInt (v 37 0 4)) ∧ ((Int32.toInt (v 30 0 8) < 0 ∧ Int32.toInt (v357 37 0 3) = Int32.toInt (v 37 0 3) + 1) ∨ 0 ≤ Int32.toInt (v357 30 0 8))
                refine ⟨hI_v357, ?_⟩
                omega
            · skip
              have ic343 := i_ne c343
              have : (0 : Int) ≤ (v342 30 0 11).toInt ∧ (v342 30 0 11).toInt ≤ (5 : Int) := hI_v342.1 30 0 11
              have : (4 : Int32).toInt = 4 := (by decide)
              refine ok_kb2 (k_X8_takes v342 hI_v342 0 1 ) (fun r359 v360 hr359 => ?_)
              have hr359 : IM v360 ∧ (Int32.toInt (v360 37 0 3) = Int32.toInt (v342 37 0 3)) ∧ (Int32.toInt (v360 37 0 4) = Int32.toInt (v342 37 0 4)) ∧ (Int32.toInt (v342 30 0 8) < 0 ∨ 0 ≤ Int32.toInt (v360 30 0 8)) ∧ (¬ Int32.toInt 0 = 0 ∨ 0 ≤ Int32.toInt (v360 30 0 8)) ∧ (Int32.toInt r359 = 0 ∨ (Int32.toInt r359 = Int32.toInt (v342 30 0 12) ∧ ¬ Int32.toInt 0 = 0)) := hr359
              obtain ⟨hI_v360, hr359⟩ := hr359
              have : ((v360 36 0 3).toInt = 0 ∧ (v360 36 0 4).toInt = 0) ∨ (0 < (v360 36 0 3).toInt ∧ 0 < (v360 36 0 4).toInt) := hI_v360.2.1
              have : (0 : Int) ≤ (v342 37 0 3).toInt ∧ (v342 37 0 3).toInt ≤ (6 : Int) := hI_v342.1 37 0 3
              have : (0 : Int) ≤ (v342 37 0 4).toInt ∧ (v342 37 0 4).toInt ≤ (4 : Int) := hI_v342.1 37 0 4
              have : (-1 : Int) ≤ (v342 30 0 8).toInt ∧ (v342 30 0 8).toInt ≤ (100 : Int) := hI_v342.1 30 0 8
              have : (0 : Int32).toInt = 0 := (by decide)
              have : (1 : Int32).toInt = 1 := (by decide)
              refine ok_bind (k_X8_isWell v360 hI_v360  ) (fun r362 hr362 => ?_)
              have hr362 : (0 : Int) ≤ Int32.toInt r362 ∧ Int32.toInt r362 ≤ (1 : Int) ∧ ((Int32.toInt r362 = 0 ∧ 0 ≤ Int32.toInt (v360 30 0 8)) ∨ (Int32.toInt r362 = 1 ∧ Int32.toInt (v360 30 0 8) < 0)) := hr362
              have : (-1 : Int) ≤ (v360 30 0 8).toInt ∧ (v360 30 0 8).toInt ≤ (100 : Int) := hI_v360.1 30 0 8
              refine ok_ite _ (fun c364 => ?_) (fun c364 => ?_)
              · skip
                have ic364 := i_eq c364
                have : (0 : Int32).toInt = 0 := (by decide)
                refine ok_some ?_
                show IM v360 ∧ (Int32.toInt (v360 37 0 4) = Int32.toInt (v 37 0 4)) ∧ ((Int32.toInt (v 30 0 8) < 0 ∧ Int32.toInt (v360 37 0 3) = Int32.toInt (v 37 0 3) + 1) ∨ 0 ≤ Int32.toInt (v360 30 0 8))
                refine ⟨hI_v360, ?_⟩
                omega
              · skip
                have ic364 := i_ne c364
                have : (0 : Int32).toInt = 0 := (by decide)
                refine ok_grd _ ?_ ?_
                · skip
                  exact gr (by omega) (by omega)
                refine ok_let (fun v366 ev366 => ?_)
                have hI_v366 : IM v366 := by
                  rw [ev366]
                  first | exact hI_v360.um7 (by omega) (by omega) | exact hI_v360.u07
                have := i_eq (show v366 30 0 8 = v360 30 0 8 by rw [ev366]; exact up3_t (by decide))
                have := i_eq (show v366 30 0 11 = v360 30 0 11 by rw [ev366]; exact up3_t (by decide))
                have := i_eq (show v366 30 0 12 = v360 30 0 12 by rw [ev366]; exact up3_t (by decide))
                (try have := i_eq (show v366 37 0 3 = v360 37 0 3 by rw [ev366]; exact up3_j (tcne (by omega) (by omega))))
                (try have := i_eq (show v366 37 0 4 = v360 37 0 4 by rw [ev366]; exact up3_j (tcne (by omega) (by omega))))
                have : ((v366 36 0 3).toInt = 0 ∧ (v366 36 0 4).toInt = 0) ∨ (0 < (v366 36 0 3).toInt ∧ 0 < (v366 36 0 4).toInt) := hI_v366.2.1
                refine ok_grd _ ?_ ?_
                · skip
                  have : (1 : Int32).toInt = 1 := (by decide)
                  have := i_bd x224
                  (first | have := sp_addx x224 (1 : Int32) (by omega) | obtain ⟨k280, hk280⟩ := sp_add x224 (1 : Int32))
                  exact gr (by omega) (by omega)
                refine ok_let (fun v368 ev368 => ?_)
                have : (1 : Int32).toInt = 1 := (by decide)
                have := i_bd x224
                (first | have := sp_addx x224 (1 : Int32) (by omega) | obtain ⟨k281, hk281⟩ := sp_add x224 (1 : Int32))
                have hI_v368 : IM v368 := by
                  rw [ev368]
                  first | exact hI_v366.um7 (by omega) (by omega) | exact hI_v366.u07
                have := i_eq (show v368 30 0 8 = v366 30 0 8 by rw [ev368]; exact up3_t (by decide))
                have := i_eq (show v368 30 0 11 = v366 30 0 11 by rw [ev368]; exact up3_t (by decide))
                have := i_eq (show v368 30 0 12 = v366 30 0 12 by rw [ev368]; exact up3_t (by decide))
                (try have := i_eq (show v368 37 0 3 = v366 37 0 3 by rw [ev368]; exact up3_j (tcne (by omega) (by omega))))
                (try have := i_eq (show v368 37 0 4 = v366 37 0 4 by rw [ev368]; exact up3_j (tcne (by omega) (by omega))))
                have : ((v368 36 0 3).toInt = 0 ∧ (v368 36 0 4).toInt = 0) ∨ (0 < (v368 36 0 3).toInt ∧ 0 < (v368 36 0 4).toInt) := hI_v368.2.1
                refine ok_grd _ ?_ ?_
                · skip
                  have : (2 : Int32).toInt = 2 := (by decide)
                  have := i_bd x224
                  (first | have := sp_addx x224 (2 : Int32) (by omega) | obtain ⟨k282, hk282⟩ := sp_add x224 (2 : Int32))
                  exact gr (by omega) (by omega)
                refine ok_let (fun v370 ev370 => ?_)
                have : (2 : Int32).toInt = 2 := (by decide)
                have := i_bd x224
                (first | have := sp_addx x224 (2 : Int32) (by omega) | obtain ⟨k283, hk283⟩ := sp_add x224 (2 : Int32))
                have : (97 : Int32).toInt = 97 := (by decide)
                have := i_bd r341
                (first | have := sp_subx r341 (97 : Int32) (by omega) | obtain ⟨k284, hk284⟩ := sp_sub r341 (97 : Int32))
                have hI_v370 : IM v370 := by
                  rw [ev370]
                  first | exact hI_v368.um7 (by omega) (by omega) | exact hI_v368.u07
                have := i_eq (show v370 30 0 8 = v368 30 0 8 by rw [ev370]; exact up3_t (by decide))
                have := i_eq (show v370 30 0 11 = v368 30 0 11 by rw [ev370]; exact up3_t (by decide))
                have := i_eq (show v370 30 0 12 = v368 30 0 12 by rw [ev370]; exact up3_t (by decide))
                (try have := i_eq (show v370 37 0 3 = v368 37 0 3 by rw [ev370]; exact up3_j (tcne (by omega) (by omega))))
                (try have := i_eq (show v370 37 0 4 = v368 37 0 4 by rw [ev370]; exact up3_j (tcne (by omega) (by omega))))
                have : ((v370 36 0 3).toInt = 0 ∧ (v370 36 0 4).toInt = 0) ∨ (0 < (v370 36 0 3).toInt ∧ 0 < (v370 36 0 4).toInt) := hI_v370.2.1
                refine ok_let (fun v371 ev371 => ?_)
                have hI_v371 : IM v371 := by
                  rw [ev371]
                  refine hI_v370.upo (by decide) ?_
                  show (0 : Int) ≤ Int32.toInt ((v370 37 0 3) + 1) ∧ Int32.toInt ((v370 37 0 3) + 1) ≤ (6 : Int)
                  have : (0 : Int) ≤ (v370 37 0 3).toInt ∧ (v370 37 0 3).toInt ≤ (6 : Int) := hI_v370.1 37 0 3
                  have : (1 : Int32).toInt = 1 := (by decide)
                  have := i_bd (v370 37 0 3)
                  (first | have := sp_addx (v370 37 0 3) (1 : Int32) (by omega) | obtain ⟨k285, hk285⟩ := sp_add (v370 37 0 3) (1 : Int32))
                  omega
                have := i_eq (show v371 30 0 8 = v370 30 0 8 by rw [ev371]; exact up3_t (by decide))
                have := i_eq (show v371 30 0 11 = v370 30 0 11 by rw [ev371]; exact up3_t (by decide))
                have := i_eq (show v371 30 0 12 = v370 30 0 12 by rw [ev371]; exact up3_t (by decide))
                have := i_eq (show v371 37 0 3 = ((v370 37 0 3) + 1) by rw [ev371]; exact up3_s)
                have : (0 : Int) ≤ (v370 37 0 3).toInt ∧ (v370 37 0 3).toInt ≤ (6 : Int) := hI_v370.1 37 0 3
                have : (1 : Int32).toInt = 1 := (by decide)
                have := i_bd (v370 37 0 3)
                (first | have := sp_addx (v370 37 0 3) (1 : Int32) (by omega) | obtain ⟨k286, hk286⟩ := sp_add (v370 37 0 3) (1 : Int32))
                have := i_eq (show v371 37 0 4 = v370 37 0 4 by rw [ev371]; exact up3_j (by decide))
                have : ((v371 36 0 3).toInt = 0 ∧ (v371 36 0 4).toInt = 0) ∨ (0 < (v371 36 0 3).toInt ∧ 0 < (v371 36 0 4).toInt) := hI_v371.2.1
                refine ok_some ?_
                show IM v371 ∧ (Int32.toInt (v371 37 0 4) = Int32.toInt (v 37 0 4)) ∧ ((Int32.toInt (v 30 0 8) < 0 ∧ Int32.toInt (v371 37 0 3) = Int32.toInt (v 37 0 3) + 1) ∨ 0 ≤ Int32.toInt (v371 30 0 8))
                refine ⟨hI_v371, ?_⟩
                omega
        · skip
          have ic303 := i_ne c303
          have : (0 : Int) ≤ (v230 30 0 11).toInt ∧ (v230 30 0 11).toInt ≤ (5 : Int) := hI_v230.1 30 0 11
          have : (1 : Int32).toInt = 1 := (by decide)
          refine ok_kb2 (k_X8_takes v230 hI_v230 0 1 ) (fun r373 v374 hr373 => ?_)
          have hr373 : IM v374 ∧ (Int32.toInt (v374 37 0 3) = Int32.toInt (v230 37 0 3)) ∧ (Int32.toInt (v374 37 0 4) = Int32.toInt (v230 37 0 4)) ∧ (Int32.toInt (v230 30 0 8) < 0 ∨ 0 ≤ Int32.toInt (v374 30 0 8)) ∧ (¬ Int32.toInt 0 = 0 ∨ 0 ≤ Int32.toInt (v374 30 0 8)) ∧ (Int32.toInt r373 = 0 ∨ (Int32.toInt r373 = Int32.toInt (v230 30 0 12) ∧ ¬ Int32.toInt 0 = 0)) := hr373
          obtain ⟨hI_v374, hr373⟩ := hr373
          have : ((v374 36 0 3).toInt = 0 ∧ (v374 36 0 4).toInt = 0) ∨ (0 < (v374 36 0 3).toInt ∧ 0 < (v374 36 0 4).toInt) := hI_v374.2.1
          have : (0 : Int) ≤ (v230 37 0 3).toInt ∧ (v230 37 0 3).toInt ≤ (6 : Int) := hI_v230.1 37 0 3
          have : (0 : Int) ≤ (v230 37 0 4).toInt ∧ (v230 37 0 4).toInt ≤ (4 : Int) := hI_v230.1 37 0 4
          have : (-1 : Int) ≤ (v230 30 0 8).toInt ∧ (v230 30 0 8).toInt ≤ (100 : Int) := hI_v230.1 30 0 8
          have : (0 : Int32).toInt = 0 := (by decide)
          have : (1 : Int32).toInt = 1 := (by decide)
          refine ok_bind (k_X8_isTold v374 hI_v374 r226 r229 ((v374 30 0 12) - 97) ) (fun r376 hr376 => ?_)
          have hr376 : (0 : Int) ≤ Int32.toInt r376 ∧ Int32.toInt r376 ≤ (1 : Int) := hr376
          refine ok_ite _ (fun c378 => ?_) (fun c378 => ?_)
          · skip
            have ic378 := i_eq c378
            have : (0 : Int32).toInt = 0 := (by decide)
            refine ok_kb2 (k_X8_takes v374 hI_v374 1 2 ) (fun r380 v381 hr380 => ?_)
            have hr380 : IM v381 ∧ (Int32.toInt (v381 37 0 3) = Int32.toInt (v374 37 0 3)) ∧ (Int32.toInt (v381 37 0 4) = Int32.toInt (v374 37 0 4)) ∧ (Int32.toInt (v374 30 0 8) < 0 ∨ 0 ≤ Int32.toInt (v381 30 0 8)) ∧ (¬ Int32.toInt 1 = 0 ∨ 0 ≤ Int32.toInt (v381 30 0 8)) ∧ (Int32.toInt r380 = 0 ∨ (Int32.toInt r380 = Int32.toInt (v374 30 0 12) ∧ ¬ Int32.toInt 1 = 0)) := hr380
            obtain ⟨hI_v381, hr380⟩ := hr380
            have : ((v381 36 0 3).toInt = 0 ∧ (v381 36 0 4).toInt = 0) ∨ (0 < (v381 36 0 3).toInt ∧ 0 < (v381 36 0 4).toInt) := hI_v381.2.1
            have : (0 : Int) ≤ (v374 37 0 3).toInt ∧ (v374 37 0 3).toInt ≤ (6 : Int) := hI_v374.1 37 0 3
            have : (0 : Int) ≤ (v374 37 0 4).toInt ∧ (v374 37 0 4).toInt ≤ (4 : Int) := hI_v374.1 37 0 4
            have : (-1 : Int) ≤ (v374 30 0 8).toInt ∧ (v374 30 0 8).toInt ≤ (100 : Int) := hI_v374.1 30 0 8
            have : (1 : Int32).toInt = 1 := (by decide)
            have : (2 : Int32).toInt = 2 := (by decide)
            refine ok_ite _ (fun c382 => ?_) (fun c382 => ?_)
            · skip
              have ic382 := i_eq c382
              have : (0 : Int) ≤ (v381 30 0 11).toInt ∧ (v381 30 0 11).toInt ≤ (5 : Int) := hI_v381.1 30 0 11
              have : (4 : Int32).toInt = 4 := (by decide)
              refine ok_kb2 (k_X8_takes v381 hI_v381 1 1 ) (fun r384 v385 hr384 => ?_)
              have hr384 : IM v385 ∧ (Int32.toInt (v385 37 0 3) = Int32.toInt (v381 37 0 3)) ∧ (Int32.toInt (v385 37 0 4) = Int32.toInt (v381 37 0 4)) ∧ (Int32.toInt (v381 30 0 8) < 0 ∨ 0 ≤ Int32.toInt (v385 30 0 8)) ∧ (¬ Int32.toInt 1 = 0 ∨ 0 ≤ Int32.toInt (v385 30 0 8)) ∧ (Int32.toInt r384 = 0 ∨ (Int32.toInt r384 = Int32.toInt (v381 30 0 12) ∧ ¬ Int32.toInt 1 = 0)) := hr384
              obtain ⟨hI_v385, hr384⟩ := hr384
              have : ((v385 36 0 3).toInt = 0 ∧ (v385 36 0 4).toInt = 0) ∨ (0 < (v385 36 0 3).toInt ∧ 0 < (v385 36 0 4).toInt) := hI_v385.2.1
              have : (0 : Int) ≤ (v381 37 0 3).toInt ∧ (v381 37 0 3).toInt ≤ (6 : Int) := hI_v381.1 37 0 3
              have : (0 : Int) ≤ (v381 37 0 4).toInt ∧ (v381 37 0 4).toInt ≤ (4 : Int) := hI_v381.1 37 0 4
              have : (-1 : Int) ≤ (v381 30 0 8).toInt ∧ (v381 30 0 8).toInt ≤ (100 : Int) := hI_v381.1 30 0 8
              have : (1 : Int32).toInt = 1 := (by decide)
              refine ok_bind (k_X8_isWell v385 hI_v385  ) (fun r387 hr387 => ?_)
              have hr387 : (0 : Int) ≤ Int32.toInt r387 ∧ Int32.toInt r387 ≤ (1 : Int) ∧ ((Int32.toInt r387 = 0 ∧ 0 ≤ Int32.toInt (v385 30 0 8)) ∨ (Int32.toInt r387 = 1 ∧ Int32.toInt (v385 30 0 8) < 0)) := hr387
              have : (-1 : Int) ≤ (v385 30 0 8).toInt ∧ (v385 30 0 8).toInt ≤ (100 : Int) := hI_v385.1 30 0 8
              refine ok_ite _ (fun c389 => ?_) (fun c389 => ?_)
              · skip
                have ic389 := i_eq c389
                have : (0 : Int32).toInt = 0 := (by decide)
                refine ok_some ?_
                show IM v385 ∧ (Int32.toInt (v385 37 0 4) = Int32.toInt (v 37 0 4)) ∧ ((Int32.toInt (v 30 0 8) < 0 ∧ Int32.toInt (v385 37 0 3) = Int32.toInt (v 37 0 3) + 1) ∨ 0 ≤ Int32.toInt (v385 30 0 8))
                refine ⟨hI_v385, ?_⟩
                omega
              · skip
                have ic389 := i_ne c389
                have : (0 : Int32).toInt = 0 := (by decide)
                refine ok_grd _ ?_ ?_
                · skip
                  exact gr (by omega) (by omega)
                refine ok_let (fun v391 ev391 => ?_)
                have hI_v391 : IM v391 := by
                  rw [ev391]
                  first | exact hI_v385.um7 (by omega) (by omega) | exact hI_v385.u07
                have := i_eq (show v391 30 0 8 = v385 30 0 8 by rw [ev391]; exact up3_t (by decide))
                have := i_eq (show v391 30 0 11 = v385 30 0 11 by rw [ev391]; exact up3_t (by decide))
                have := i_eq (show v391 30 0 12 = v385 30 0 12 by rw [ev391]; exact up3_t (by decide))
                (try have := i_eq (show v391 37 0 3 = v385 37 0 3 by rw [ev391]; exact up3_j (tcne (by omega) (by omega))))
                (try have := i_eq (show v391 37 0 4 = v385 37 0 4 by rw [ev391]; exact up3_j (tcne (by omega) (by omega))))
                have : ((v391 36 0 3).toInt = 0 ∧ (v391 36 0 4).toInt = 0) ∨ (0 < (v391 36 0 3).toInt ∧ 0 < (v391 36 0 4).toInt) := hI_v391.2.1
                refine ok_grd _ ?_ ?_
                · skip
                  have : (1 : Int32).toInt = 1 := (by decide)
                  have := i_bd x224
                  (first | have := sp_addx x224 (1 : Int32) (by omega) | obtain ⟨k287, hk287⟩ := sp_add x224 (1 : Int32))
                  exact gr (by omega) (by omega)
                refine ok_let (fun v393 ev393 => ?_)
                have : (1 : Int32).toInt = 1 := (by decide)
                have := i_bd x224
                (first | have := sp_addx x224 (1 : Int32) (by omega) | obtain ⟨k288, hk288⟩ := sp_add x224 (1 : Int32))
                have hI_v393 : IM v393 := by
                  rw [ev393]
                  first | exact hI_v391.um7 (by omega) (by omega) | exact hI_v391.u07
                have := i_eq (show v393 30 0 8 = v391 30 0 8 by rw [ev393]; exact up3_t (by decide))
                have := i_eq (show v393 30 0 11 = v391 30 0 11 by rw [ev393]; exact up3_t (by decide))
                have := i_eq (show v393 30 0 12 = v391 30 0 12 by rw [ev393]; exact up3_t (by decide))
                (try have := i_eq (show v393 37 0 3 = v391 37 0 3 by rw [ev393]; exact up3_j (tcne (by omega) (by omega))))
                (try have := i_eq (show v393 37 0 4 = v391 37 0 4 by rw [ev393]; exact up3_j (tcne (by omega) (by omega))))
                have : ((v393 36 0 3).toInt = 0 ∧ (v393 36 0 4).toInt = 0) ∨ (0 < (v393 36 0 3).toInt ∧ 0 < (v393 36 0 4).toInt) := hI_v393.2.1
                refine ok_grd _ ?_ ?_
                · skip
                  have : (2 : Int32).toInt = 2 := (by decide)
                  have := i_bd x224
                  (first | have := sp_addx x224 (2 : Int32) (by omega) | obtain ⟨k289, hk289⟩ := sp_add x224 (2 : Int32))
                  exact gr (by omega) (by omega)
                refine ok_let (fun v395 ev395 => ?_)
                have : (2 : Int32).toInt = 2 := (by decide)
                have := i_bd x224
                (first | have := sp_addx x224 (2 : Int32) (by omega) | obtain ⟨k290, hk290⟩ := sp_add x224 (2 : Int32))
                have : (97 : Int32).toInt = 97 := (by decide)
                have := i_bd r380
                (first | have := sp_subx r380 (97 : Int32) (by omega) | obtain ⟨k291, hk291⟩ := sp_sub r380 (97 : Int32))
                have hI_v395 : IM v395 := by
                  rw [ev395]
                  first | exact hI_v393.um7 (by omega) (by omega) | exact hI_v393.u07
                have := i_eq (show v395 30 0 8 = v393 30 0 8 by rw [ev395]; exact up3_t (by decide))
                have := i_eq (show v395 30 0 11 = v393 30 0 11 by rw [ev395]; exact up3_t (by decide))
                have := i_eq (show v395 30 0 12 = v393 30 0 12 by rw [ev395]; exact up3_t (by decide))
                (try have := i_eq (show v395 37 0 3 = v393 37 0 3 by rw [ev395]; exact up3_j (tcne (by omega) (by omega))))
                (try have := i_eq (show v395 37 0 4 = v393 37 0 4 by rw [ev395]; exact up3_j (tcne (by omega) (by omega))))
                have : ((v395 36 0 3).toInt = 0 ∧ (v395 36 0 4).toInt = 0) ∨ (0 < (v395 36 0 3).toInt ∧ 0 < (v395 36 0 4).toInt) := hI_v395.2.1
                refine ok_let (fun v396 ev396 => ?_)
                have hI_v396 : IM v396 := by
                  rw [ev396]
                  refine hI_v395.upo (by decide) ?_
                  show (0 : Int) ≤ Int32.toInt ((v395 37 0 3) + 1) ∧ Int32.toInt ((v395 37 0 3) + 1) ≤ (6 : Int)
                  have : (0 : Int) ≤ (v395 37 0 3).toInt ∧ (v395 37 0 3).toInt ≤ (6 : Int) := hI_v395.1 37 0 3
                  have : (1 : Int32).toInt = 1 := (by decide)
                  have := i_bd (v395 37 0 3)
                  (first | have := sp_addx (v395 37 0 3) (1 : Int32) (by omega) | obtain ⟨k292, hk292⟩ := sp_add (v395 37 0 3) (1 : Int32))
                  omega
                have := i_eq (show v396 30 0 8 = v395 30 0 8 by rw [ev396]; exact up3_t (by decide))
                have := i_eq (show v396 30 0 11 = v395 30 0 11 by rw [ev396]; exact up3_t (by decide))
                have := i_eq (show v396 30 0 12 = v395 30 0 12 by rw [ev396]; exact up3_t (by decide))
                have := i_eq (show v396 37 0 3 = ((v395 37 0 3) + 1) by rw [ev396]; exact up3_s)
                have : (0 : Int) ≤ (v395 37 0 3).toInt ∧ (v395 37 0 3).toInt ≤ (6 : Int) := hI_v395.1 37 0 3
                have : (1 : Int32).toInt = 1 := (by decide)
                have := i_bd (v395 37 0 3)
                (first | have := sp_addx (v395 37 0 3) (1 : Int32) (by omega) | obtain ⟨k293, hk293⟩ := sp_add (v395 37 0 3) (1 : Int32))
                have := i_eq (show v396 37 0 4 = v395 37 0 4 by rw [ev396]; exact up3_j (by decide))
                have : ((v396 36 0 3).toInt = 0 ∧ (v396 36 0 4).toInt = 0) ∨ (0 < (v396 36 0 3).toInt ∧ 0 < (v396 36 0 4).toInt) := hI_v396.2.1
                refine ok_some ?_
                show IM v396 ∧ (Int32.toInt (v396 37 0 4) = Int32.toInt (v 37 0 4)) ∧ ((Int32.toInt (v 30 0 8) < 0 ∧ Int32.toInt (v396 37 0 3) = Int32.toInt (v 37 0 3) + 1) ∨ 0 ≤ Int32.toInt (v396 30 0 8))
                refine ⟨hI_v396, ?_⟩
                omega
            · skip
              have ic382 := i_ne c382
              have : (0 : Int) ≤ (v381 30 0 11).toInt ∧ (v381 30 0 11).toInt ≤ (5 : Int) := hI_v381.1 30 0 11
              have : (4 : Int32).toInt = 4 := (by decide)
              refine ok_kb2 (k_X8_takes v381 hI_v381 0 1 ) (fun r398 v399 hr398 => ?_)
              have hr398 : IM v399 ∧ (Int32.toInt (v399 37 0 3) = Int32.toInt (v381 37 0 3)) ∧ (Int32.toInt (v399 37 0 4) = Int32.toInt (v381 37 0 4)) ∧ (Int32.toInt (v381 30 0 8) < 0 ∨ 0 ≤ Int32.toInt (v399 30 0 8)) ∧ (¬ Int32.toInt 0 = 0 ∨ 0 ≤ Int32.toInt (v399 30 0 8)) ∧ (Int32.toInt r398 = 0 ∨ (Int32.toInt r398 = Int32.toInt (v381 30 0 12) ∧ ¬ Int32.toInt 0 = 0)) := hr398
              obtain ⟨hI_v399, hr398⟩ := hr398
              have : ((v399 36 0 3).toInt = 0 ∧ (v399 36 0 4).toInt = 0) ∨ (0 < (v399 36 0 3).toInt ∧ 0 < (v399 36 0 4).toInt) := hI_v399.2.1
              have : (0 : Int) ≤ (v381 37 0 3).toInt ∧ (v381 37 0 3).toInt ≤ (6 : Int) := hI_v381.1 37 0 3
              have : (0 : Int) ≤ (v381 37 0 4).toInt ∧ (v381 37 0 4).toInt ≤ (4 : Int) := hI_v381.1 37 0 4
              have : (-1 : Int) ≤ (v381 30 0 8).toInt ∧ (v381 30 0 8).toInt ≤ (100 : Int) := hI_v381.1 30 0 8
              have : (0 : Int32).toInt = 0 := (by decide)
              have : (1 : Int32).toInt = 1 := (by decide)
              refine ok_bind (k_X8_isWell v399 hI_v399  ) (fun r401 hr401 => ?_)
              have hr401 : (0 : Int) ≤ Int32.toInt r401 ∧ Int32.toInt r401 ≤ (1 : Int) ∧ ((Int32.toInt r401 = 0 ∧ 0 ≤ Int32.toInt (v399 30 0 8)) ∨ (Int32.toInt r401 = 1 ∧ Int32.toInt (v399 30 0 8) < 0)) := hr401
              have : (-1 : Int) ≤ (v399 30 0 8).toInt ∧ (v399 30 0 8).toInt ≤ (100 : Int) := hI_v399.1 30 0 8
              refine ok_ite _ (fun c403 => ?_) (fun c403 => ?_)
              · skip
                have ic403 := i_eq c403
                have : (0 : Int32).toInt = 0 := (by decide)
                refine ok_some ?_
                show IM v399 ∧ (Int32.toInt (v399 37 0 4) = Int32.toInt (v 37 0 4)) ∧ ((Int32.toInt (v 30 0 8) < 0 ∧ Int32.toInt (v399 37 0 3) = Int32.toInt (v 37 0 3) + 1) ∨ 0 ≤ Int32.toInt (v399 30 0 8))
                refine ⟨hI_v399, ?_⟩
                omega
              · skip
                have ic403 := i_ne c403
                have : (0 : Int32).toInt = 0 := (by decide)
                refine ok_grd _ ?_ ?_
                · skip
                  exact gr (by omega) (by omega)
                refine ok_let (fun v405 ev405 => ?_)
                have hI_v405 : IM v405 := by
                  rw [ev405]
                  first | exact hI_v399.um7 (by omega) (by omega) | exact hI_v399.u07
                have := i_eq (show v405 30 0 8 = v399 30 0 8 by rw [ev405]; exact up3_t (by decide))
                have := i_eq (show v405 30 0 11 = v399 30 0 11 by rw [ev405]; exact up3_t (by decide))
                have := i_eq (show v405 30 0 12 = v399 30 0 12 by rw [ev405]; exact up3_t (by decide))
                (try have := i_eq (show v405 37 0 3 = v399 37 0 3 by rw [ev405]; exact up3_j (tcne (by omega) (by omega))))
                (try have := i_eq (show v405 37 0 4 = v399 37 0 4 by rw [ev405]; exact up3_j (tcne (by omega) (by omega))))
                have : ((v405 36 0 3).toInt = 0 ∧ (v405 36 0 4).toInt = 0) ∨ (0 < (v405 36 0 3).toInt ∧ 0 < (v405 36 0 4).toInt) := hI_v405.2.1
                refine ok_grd _ ?_ ?_
                · skip
                  have : (1 : Int32).toInt = 1 := (by decide)
                  have := i_bd x224
                  (first | have := sp_addx x224 (1 : Int32) (by omega) | obtain ⟨k294, hk294⟩ := sp_add x224 (1 : Int32))
                  exact gr (by omega) (by omega)
                refine ok_let (fun v407 ev407 => ?_)
                have : (1 : Int32).toInt = 1 := (by decide)
                have := i_bd x224
                (first | have := sp_addx x224 (1 : Int32) (by omega) | obtain ⟨k295, hk295⟩ := sp_add x224 (1 : Int32))
                have hI_v407 : IM v407 := by
                  rw [ev407]
                  first | exact hI_v405.um7 (by omega) (by omega) | exact hI_v405.u07
                have := i_eq (show v407 30 0 8 = v405 30 0 8 by rw [ev407]; exact up3_t (by decide))
                have := i_eq (show v407 30 0 11 = v405 30 0 11 by rw [ev407]; exact up3_t (by decide))
                have := i_eq (show v407 30 0 12 = v405 30 0 12 by rw [ev407]; exact up3_t (by decide))
                (try have := i_eq (show v407 37 0 3 = v405 37 0 3 by rw [ev407]; exact up3_j (tcne (by omega) (by omega))))
                (try have := i_eq (show v407 37 0 4 = v405 37 0 4 by rw [ev407]; exact up3_j (tcne (by omega) (by omega))))
                have : ((v407 36 0 3).toInt = 0 ∧ (v407 36 0 4).toInt = 0) ∨ (0 < (v407 36 0 3).toInt ∧ 0 < (v407 36 0 4).toInt) := hI_v407.2.1
                refine ok_grd _ ?_ ?_
                · skip
                  have : (2 : Int32).toInt = 2 := (by decide)
                  have := i_bd x224
                  (first | have := sp_addx x224 (2 : Int32) (by omega) | obtain ⟨k296, hk296⟩ := sp_add x224 (2 : Int32))
                  exact gr (by omega) (by omega)
                refine ok_let (fun v409 ev409 => ?_)
                have : (2 : Int32).toInt = 2 := (by decide)
                have := i_bd x224
                (first | have := sp_addx x224 (2 : Int32) (by omega) | obtain ⟨k297, hk297⟩ := sp_add x224 (2 : Int32))
                have : (97 : Int32).toInt = 97 := (by decide)
                have := i_bd r380
                (first | have := sp_subx r380 (97 : Int32) (by omega) | obtain ⟨k298, hk298⟩ := sp_sub r380 (97 : Int32))
                have hI_v409 : IM v409 := by
                  rw [ev409]
                  first | exact hI_v407.um7 (by omega) (by omega) | exact hI_v407.u07
                have := i_eq (show v409 30 0 8 = v407 30 0 8 by rw [ev409]; exact up3_t (by decide))
                have := i_eq (show v409 30 0 11 = v407 30 0 11 by rw [ev409]; exact up3_t (by decide))
                have := i_eq (show v409 30 0 12 = v407 30 0 12 by rw [ev409]; exact up3_t (by decide))
                (try have := i_eq (show v409 37 0 3 = v407 37 0 3 by rw [ev409]; exact up3_j (tcne (by omega) (by omega))))
                (try have := i_eq (show v409 37 0 4 = v407 37 0 4 by rw [ev409]; exact up3_j (tcne (by omega) (by omega))))
                have : ((v409 36 0 3).toInt = 0 ∧ (v409 36 0 4).toInt = 0) ∨ (0 < (v409 36 0 3).toInt ∧ 0 < (v409 36 0 4).toInt) := hI_v409.2.1
                refine ok_let (fun v410 ev410 => ?_)
                have hI_v410 : IM v410 := by
                  rw [ev410]
                  refine hI_v409.upo (by decide) ?_
                  show (0 : Int) ≤ Int32.toInt ((v409 37 0 3) + 1) ∧ Int32.toInt ((v409 37 0 3) + 1) ≤ (6 : Int)
                  have : (0 : Int) ≤ (v409 37 0 3).toInt ∧ (v409 37 0 3).toInt ≤ (6 : Int) := hI_v409.1 37 0 3
                  have : (1 : Int32).toInt = 1 := (by decide)
                  have := i_bd (v409 37 0 3)
                  (first | have := sp_addx (v409 37 0 3) (1 : Int32) (by omega) | obtain ⟨k299, hk299⟩ := sp_add (v409 37 0 3) (1 : Int32))
                  omega
                have := i_eq (show v410 30 0 8 = v409 30 0 8 by rw [ev410]; exact up3_t (by decide))
                have := i_eq (show v410 30 0 11 = v409 30 0 11 by rw [ev410]; exact up3_t (by decide))
                have := i_eq (show v410 30 0 12 = v409 30 0 12 by rw [ev410]; exact up3_t (by decide))
                have := i_eq (show v410 37 0 3 = ((v409 37 0 3) + 1) by rw [ev410]; exact up3_s)
                have : (0 : Int) ≤ (v409 37 0 3).toInt ∧ (v409 37 0 3).toInt ≤ (6 : Int) := hI_v409.1 37 0 3
                have : (1 : Int32).toInt = 1 := (by decide)
                have := i_bd (v409 37 0 3)
                (first | have := sp_addx (v409 37 0 3) (1 : Int32) (by omega) | obtain ⟨k300, hk300⟩ := sp_add (v409 37 0 3) (1 : Int32))
                have := i_eq (show v410 37 0 4 = v409 37 0 4 by rw [ev410]; exact up3_j (by decide))
                have : ((v410 36 0 3).toInt = 0 ∧ (v410 36 0 4).toInt = 0) ∨ (0 < (v410 36 0 3).toInt ∧ 0 < (v410 36 0 4).toInt) := hI_v410.2.1
                refine ok_some ?_
                show IM v410 ∧ (Int32.toInt (v410 37 0 4) = Int32.toInt (v 37 0 4)) ∧ ((Int32.toInt (v 30 0 8) < 0 ∧ Int32.toInt (v410 37 0 3) = Int32.toInt (v 37 0 3) + 1) ∨ 0 ≤ Int32.toInt (v410 30 0 8))
                refine ⟨hI_v410, ?_⟩
                omega
          · skip
            have ic378 := i_ne c378
            have : (0 : Int32).toInt = 0 := (by decide)
            refine ok_kb2 (k_X8_takes v374 hI_v374 0 2 ) (fun r412 v413 hr412 => ?_)
            have hr412 : IM v413 ∧ (Int32.toInt (v413 37 0 3) = Int32.toInt (v374 37 0 3)) ∧ (Int32.toInt (v413 37 0 4) = Int32.toInt (v374 37 0 4)) ∧ (Int32.toInt (v374 30 0 8) < 0 ∨ 0 ≤ Int32.toInt (v413 30 0 8)) ∧ (¬ Int32.toInt 0 = 0 ∨ 0 ≤ Int32.toInt (v413 30 0 8)) ∧ (Int32.toInt r412 = 0 ∨ (Int32.toInt r412 = Int32.toInt (v374 30 0 12) ∧ ¬ Int32.toInt 0 = 0)) := hr412
            obtain ⟨hI_v413, hr412⟩ := hr412
            have : ((v413 36 0 3).toInt = 0 ∧ (v413 36 0 4).toInt = 0) ∨ (0 < (v413 36 0 3).toInt ∧ 0 < (v413 36 0 4).toInt) := hI_v413.2.1
            have : (0 : Int) ≤ (v374 37 0 3).toInt ∧ (v374 37 0 3).toInt ≤ (6 : Int) := hI_v374.1 37 0 3
            have : (0 : Int) ≤ (v374 37 0 4).toInt ∧ (v374 37 0 4).toInt ≤ (4 : Int) := hI_v374.1 37 0 4
            have : (-1 : Int) ≤ (v374 30 0 8).toInt ∧ (v374 30 0 8).toInt ≤ (100 : Int) := hI_v374.1 30 0 8
            have : (0 : Int32).toInt = 0 := (by decide)
            have : (2 : Int32).toInt = 2 := (by decide)
            refine ok_ite _ (fun c414 => ?_) (fun c414 => ?_)
            · skip
              have ic414 := i_eq c414
              have : (0 : Int) ≤ (v413 30 0 11).toInt ∧ (v413 30 0 11).toInt ≤ (5 : Int) := hI_v413.1 30 0 11
              have : (4 : Int32).toInt = 4 := (by decide)
              refine ok_kb2 (k_X8_takes v413 hI_v413 1 1 ) (fun r416 v417 hr416 => ?_)
              have hr416 : IM v417 ∧ (Int32.toInt (v417 37 0 3) = Int32.toInt (v413 37 0 3)) ∧ (Int32.toInt (v417 37 0 4) = Int32.toInt (v413 37 0 4)) ∧ (Int32.toInt (v413 30 0 8) < 0 ∨ 0 ≤ Int32.toInt (v417 30 0 8)) ∧ (¬ Int32.toInt 1 = 0 ∨ 0 ≤ Int32.toInt (v417 30 0 8)) ∧ (Int32.toInt r416 = 0 ∨ (Int32.toInt r416 = Int32.toInt (v413 30 0 12) ∧ ¬ Int32.toInt 1 = 0)) := hr416
              obtain ⟨hI_v417, hr416⟩ := hr416
              have : ((v417 36 0 3).toInt = 0 ∧ (v417 36 0 4).toInt = 0) ∨ (0 < (v417 36 0 3).toInt ∧ 0 < (v417 36 0 4).toInt) := hI_v417.2.1
              have : (0 : Int) ≤ (v413 37 0 3).toInt ∧ (v413 37 0 3).toInt ≤ (6 : Int) := hI_v413.1 37 0 3
              have : (0 : Int) ≤ (v413 37 0 4).toInt ∧ (v413 37 0 4).toInt ≤ (4 : Int) := hI_v413.1 37 0 4
              have : (-1 : Int) ≤ (v413 30 0 8).toInt ∧ (v413 30 0 8).toInt ≤ (100 : Int) := hI_v413.1 30 0 8
              have : (1 : Int32).toInt = 1 := (by decide)
              refine ok_bind (k_X8_isWell v417 hI_v417  ) (fun r419 hr419 => ?_)
              have hr419 : (0 : Int) ≤ Int32.toInt r419 ∧ Int32.toInt r419 ≤ (1 : Int) ∧ ((Int32.toInt r419 = 0 ∧ 0 ≤ Int32.toInt (v417 30 0 8)) ∨ (Int32.toInt r419 = 1 ∧ Int32.toInt (v417 30 0 8) < 0)) := hr419
              have : (-1 : Int) ≤ (v417 30 0 8).toInt ∧ (v417 30 0 8).toInt ≤ (100 : Int) := hI_v417.1 30 0 8
              refine ok_ite _ (fun c421 => ?_) (fun c421 => ?_)
              · skip
                have ic421 := i_eq c421
                have : (0 : Int32).toInt = 0 := (by decide)
                refine ok_some ?_
                show IM v417 ∧ (Int32.toInt (v417 37 0 4) = Int32.toInt (v 37 0 4)) ∧ ((Int32.toInt (v 30 0 8) < 0 ∧ Int32.toInt (v417 37 0 3) = Int32.toInt (v 37 0 3) + 1) ∨ 0 ≤ Int32.toInt (v417 30 0 8))
                refine ⟨hI_v417, ?_⟩
                omega
              · skip
                have ic421 := i_ne c421
                have : (0 : Int32).toInt = 0 := (by decide)
                refine ok_grd _ ?_ ?_
                · skip
                  exact gr (by omega) (by omega)
                refine ok_let (fun v423 ev423 => ?_)
                have hI_v423 : IM v423 := by
                  rw [ev423]
                  first | exact hI_v417.um7 (by omega) (by omega) | exact hI_v417.u07
                have := i_eq (show v423 30 0 8 = v417 30 0 8 by rw [ev423]; exact up3_t (by decide))
                have := i_eq (show v423 30 0 11 = v417 30 0 11 by rw [ev423]; exact up3_t (by decide))
                have := i_eq (show v423 30 0 12 = v417 30 0 12 by rw [ev423]; exact up3_t (by decide))
                (try have := i_eq (show v423 37 0 3 = v417 37 0 3 by rw [ev423]; exact up3_j (tcne (by omega) (by omega))))
                (try have := i_eq (show v423 37 0 4 = v417 37 0 4 by rw [ev423]; exact up3_j (tcne (by omega) (by omega))))
                have : ((v423 36 0 3).toInt = 0 ∧ (v423 36 0 4).toInt = 0) ∨ (0 < (v423 36 0 3).toInt ∧ 0 < (v423 36 0 4).toInt) := hI_v423.2.1
                refine ok_grd _ ?_ ?_
                · skip
                  have : (1 : Int32).toInt = 1 := (by decide)
                  have := i_bd x224
                  (first | have := sp_addx x224 (1 : Int32) (by omega) | obtain ⟨k301, hk301⟩ := sp_add x224 (1 : Int32))
                  exact gr (by omega) (by omega)
                refine ok_let (fun v425 ev425 => ?_)
                have : (1 : Int32).toInt = 1 := (by decide)
                have := i_bd x224
                (first | have := sp_addx x224 (1 : Int32) (by omega) | obtain ⟨k302, hk302⟩ := sp_add x224 (1 : Int32))
                have hI_v425 : IM v425 := by
                  rw [ev425]
                  first | exact hI_v423.um7 (by omega) (by omega) | exact hI_v423.u07
                have := i_eq (show v425 30 0 8 = v423 30 0 8 by rw [ev425]; exact up3_t (by decide))
                have := i_eq (show v425 30 0 11 = v423 30 0 11 by rw [ev425]; exact up3_t (by decide))
                have := i_eq (show v425 30 0 12 = v423 30 0 12 by rw [ev425]; exact up3_t (by decide))
                (try have := i_eq (show v425 37 0 3 = v423 37 0 3 by rw [ev425]; exact up3_j (tcne (by omega) (by omega))))
                (try have := i_eq (show v425 37 0 4 = v423 37 0 4 by rw [ev425]; exact up3_j (tcne (by omega) (by omega))))
                have : ((v425 36 0 3).toInt = 0 ∧ (v425 36 0 4).toInt = 0) ∨ (0 < (v425 36 0 3).toInt ∧ 0 < (v425 36 0 4).toInt) := hI_v425.2.1
                refine ok_grd _ ?_ ?_
                · skip
                  have : (2 : Int32).toInt = 2 := (by decide)
                  have := i_bd x224
                  (first | have := sp_addx x224 (2 : Int32) (by omega) | obtain ⟨k303, hk303⟩ := sp_add x224 (2 : Int32))
                  exact gr (by omega) (by omega)
                refine ok_let (fun v427 ev427 => ?_)
                have : (2 : Int32).toInt = 2 := (by decide)
                have := i_bd x224
                (first | have := sp_addx x224 (2 : Int32) (by omega) | obtain ⟨k304, hk304⟩ := sp_add x224 (2 : Int32))
                have : (97 : Int32).toInt = 97 := (by decide)
                have := i_bd r412
                (first | have := sp_subx r412 (97 : Int32) (by omega) | obtain ⟨k305, hk305⟩ := sp_sub r412 (97 : Int32))
                have hI_v427 : IM v427 := by
                  rw [ev427]
                  first | exact hI_v425.um7 (by omega) (by omega) | exact hI_v425.u07
                have := i_eq (show v427 30 0 8 = v425 30 0 8 by rw [ev427]; exact up3_t (by decide))
                have := i_eq (show v427 30 0 11 = v425 30 0 11 by rw [ev427]; exact up3_t (by decide))
                have := i_eq (show v427 30 0 12 = v425 30 0 12 by rw [ev427]; exact up3_t (by decide))
                (try have := i_eq (show v427 37 0 3 = v425 37 0 3 by rw [ev427]; exact up3_j (tcne (by omega) (by omega))))
                (try have := i_eq (show v427 37 0 4 = v425 37 0 4 by rw [ev427]; exact up3_j (tcne (by omega) (by omega))))
                have : ((v427 36 0 3).toInt = 0 ∧ (v427 36 0 4).toInt = 0) ∨ (0 < (v427 36 0 3).toInt ∧ 0 < (v427 36 0 4).toInt) := hI_v427.2.1
                refine ok_let (fun v428 ev428 => ?_)
                have hI_v428 : IM v428 := by
                  rw [ev428]
                  refine hI_v427.upo (by decide) ?_
                  show (0 : Int) ≤ Int32.toInt ((v427 37 0 3) + 1) ∧ Int32.toInt ((v427 37 0 3) + 1) ≤ (6 : Int)
                  have : (0 : Int) ≤ (v427 37 0 3).toInt ∧ (v427 37 0 3).toInt ≤ (6 : Int) := hI_v427.1 37 0 3
                  have : (1 : Int32).toInt = 1 := (by decide)
                  have := i_bd (v427 37 0 3)
                  (first | have := sp_addx (v427 37 0 3) (1 : Int32) (by omega) | obtain ⟨k306, hk306⟩ := sp_add (v427 37 0 3) (1 : Int32))
                  omega
                have := i_eq (show v428 30 0 8 = v427 30 0 8 by rw [ev428]; exact up3_t (by decide))
                have := i_eq (show v428 30 0 11 = v427 30 0 11 by rw [ev428]; exact up3_t (by decide))
                have := i_eq (show v428 30 0 12 = v427 30 0 12 by rw [ev428]; exact up3_t (by decide))
                have := i_eq (show v428 37 0 3 = ((v427 37 0 3) + 1) by rw [ev428]; exact up3_s)
                have : (0 : Int) ≤ (v427 37 0 3).toInt ∧ (v427 37 0 3).toInt ≤ (6 : Int) := hI_v427.1 37 0 3
                have : (1 : Int32).toInt = 1 := (by decide)
                have := i_bd (v427 37 0 3)
                (first | have := sp_addx (v427 37 0 3) (1 : Int32) (by omega) | obtain ⟨k307, hk307⟩ := sp_add (v427 37 0 3) (1 : Int32))
                have := i_eq (show v428 37 0 4 = v427 37 0 4 by rw [ev428]; exact up3_j (by decide))
                have : ((v428 36 0 3).toInt = 0 ∧ (v428 36 0 4).toInt = 0) ∨ (0 < (v428 36 0 3).toInt ∧ 0 < (v428 36 0 4).toInt) := hI_v428.2.1
                refine ok_some ?_
                show IM v428 ∧ (Int32.toInt (v428 37 0 4) = Int32.toInt (v 37 0 4)) ∧ ((Int32.toInt (v 30 0 8) < 0 ∧ Int32.toInt (v428 37 0 3) = Int32.toInt (v 37 0 3) + 1) ∨ 0 ≤ Int32.toInt (v428 30 0 8))
                refine ⟨hI_v428, ?_⟩
                omega
            · skip
              have ic414 := i_ne c414
              have : (0 : Int) ≤ (v413 30 0 11).toInt ∧ (v413 30 0 11).toInt ≤ (5 : Int) := hI_v413.1 30 0 11
              have : (4 : Int32).toInt = 4 := (by decide)
              refine ok_kb2 (k_X8_takes v413 hI_v413 0 1 ) (fun r430 v431 hr430 => ?_)
              have hr430 : IM v431 ∧ (Int32.toInt (v431 37 0 3) = Int32.toInt (v413 37 0 3)) ∧ (Int32.toInt (v431 37 0 4) = Int32.toInt (v413 37 0 4)) ∧ (Int32.toInt (v413 30 0 8) < 0 ∨ 0 ≤ Int32.toInt (v431 30 0 8)) ∧ (¬ Int32.toInt 0 = 0 ∨ 0 ≤ Int32.toInt (v431 30 0 8)) ∧ (Int32.toInt r430 = 0 ∨ (Int32.toInt r430 = Int32.toInt (v413 30 0 12) ∧ ¬ Int32.toInt 0 = 0)) := hr430
              obtain ⟨hI_v431, hr430⟩ := hr430
              have : ((v431 36 0 3).toInt = 0 ∧ (v431 36 0 4).toInt = 0) ∨ (0 < (v431 36 0 3).toInt ∧ 0 < (v431 36 0 4).toInt) := hI_v431.2.1
              have : (0 : Int) ≤ (v413 37 0 3).toInt ∧ (v413 37 0 3).toInt ≤ (6 : Int) := hI_v413.1 37 0 3
              have : (0 : Int) ≤ (v413 37 0 4).toInt ∧ (v413 37 0 4).toInt ≤ (4 : Int) := hI_v413.1 37 0 4
              have : (-1 : Int) ≤ (v413 30 0 8).toInt ∧ (v413 30 0 8).toInt ≤ (100 : Int) := hI_v413.1 30 0 8
              have : (0 : Int32).toInt = 0 := (by decide)
              have : (1 : Int32).toInt = 1 := (by decide)
              refine ok_bind (k_X8_isWell v431 hI_v431  ) (fun r433 hr433 => ?_)
              have hr433 : (0 : Int) ≤ Int32.toInt r433 ∧ Int32.toInt r433 ≤ (1 : Int) ∧ ((Int32.toInt r433 = 0 ∧ 0 ≤ Int32.toInt (v431 30 0 8)) ∨ (Int32.toInt r433 = 1 ∧ Int32.toInt (v431 30 0 8) < 0)) := hr433
              have : (-1 : Int) ≤ (v431 30 0 8).toInt ∧ (v431 30 0 8).toInt ≤ (100 : Int) := hI_v431.1 30 0 8
              refine ok_ite _ (fun c435 => ?_) (fun c435 => ?_)
              · skip
                have ic435 := i_eq c435
                have : (0 : Int32).toInt = 0 := (by decide)
                refine ok_some ?_
                show IM v431 ∧ (Int32.toInt (v431 37 0 4) = Int32.toInt (v 37 0 4)) ∧ ((Int32.toInt (v 30 0 8) < 0 ∧ Int32.toInt (v431 37 0 3) = Int32.toInt (v 37 0 3) + 1) ∨ 0 ≤ Int32.toInt (v431 30 0 8))
                refine ⟨hI_v431, ?_⟩
                omega
              · skip
                have ic435 := i_ne c435
                have : (0 : Int32).toInt = 0 := (by decide)
                refine ok_grd _ ?_ ?_
                · skip
                  exact gr (by omega) (by omega)
                refine ok_let (fun v437 ev437 => ?_)
                have hI_v437 : IM v437 := by
                  rw [ev437]
                  first | exact hI_v431.um7 (by omega) (by omega) | exact hI_v431.u07
                have := i_eq (show v437 30 0 8 = v431 30 0 8 by rw [ev437]; exact up3_t (by decide))
                have := i_eq (show v437 30 0 11 = v431 30 0 11 by rw [ev437]; exact up3_t (by decide))
                have := i_eq (show v437 30 0 12 = v431 30 0 12 by rw [ev437]; exact up3_t (by decide))
                (try have := i_eq (show v437 37 0 3 = v431 37 0 3 by rw [ev437]; exact up3_j (tcne (by omega) (by omega))))
                (try have := i_eq (show v437 37 0 4 = v431 37 0 4 by rw [ev437]; exact up3_j (tcne (by omega) (by omega))))
                have : ((v437 36 0 3).toInt = 0 ∧ (v437 36 0 4).toInt = 0) ∨ (0 < (v437 36 0 3).toInt ∧ 0 < (v437 36 0 4).toInt) := hI_v437.2.1
                refine ok_grd _ ?_ ?_
                · skip
                  have : (1 : Int32).toInt = 1 := (by decide)
                  have := i_bd x224
                  (first | have := sp_addx x224 (1 : Int32) (by omega) | obtain ⟨k308, hk308⟩ := sp_add x224 (1 : Int32))
                  exact gr (by omega) (by omega)
                refine ok_let (fun v439 ev439 => ?_)
                have : (1 : Int32).toInt = 1 := (by decide)
                have := i_bd x224
                (first | have := sp_addx x224 (1 : Int32) (by omega) | obtain ⟨k309, hk309⟩ := sp_add x224 (1 : Int32))
                have hI_v439 : IM v439 := by
                  rw [ev439]
                  first | exact hI_v437.um7 (by omega) (by omega) | exact hI_v437.u07
                have := i_eq (show v439 30 0 8 = v437 30 0 8 by rw [ev439]; exact up3_t (by decide))
                have := i_eq (show v439 30 0 11 = v437 30 0 11 by rw [ev439]; exact up3_t (by decide))
                have := i_eq (show v439 30 0 12 = v437 30 0 12 by rw [ev439]; exact up3_t (by decide))
                (try have := i_eq (show v439 37 0 3 = v437 37 0 3 by rw [ev439]; exact up3_j (tcne (by omega) (by omega))))
                (try have := i_eq (show v439 37 0 4 = v437 37 0 4 by rw [ev439]; exact up3_j (tcne (by omega) (by omega))))
                have : ((v439 36 0 3).toInt = 0 ∧ (v439 36 0 4).toInt = 0) ∨ (0 < (v439 36 0 3).toInt ∧ 0 < (v439 36 0 4).toInt) := hI_v439.2.1
                refine ok_grd _ ?_ ?_
                · skip
                  have : (2 : Int32).toInt = 2 := (by decide)
                  have := i_bd x224
                  (first | have := sp_addx x224 (2 : Int32) (by omega) | obtain ⟨k310, hk310⟩ := sp_add x224 (2 : Int32))
                  exact gr (by omega) (by omega)
                refine ok_let (fun v441 ev441 => ?_)
                have : (2 : Int32).toInt = 2 := (by decide)
                have := i_bd x224
                (first | have := sp_addx x224 (2 : Int32) (by omega) | obtain ⟨k311, hk311⟩ := sp_add x224 (2 : Int32))
                have : (97 : Int32).toInt = 97 := (by decide)
                have := i_bd r412
                (first | have := sp_subx r412 (97 : Int32) (by omega) | obtain ⟨k312, hk312⟩ := sp_sub r412 (97 : Int32))
                have hI_v441 : IM v441 := by
                  rw [ev441]
                  first | exact hI_v439.um7 (by omega) (by omega) | exact hI_v439.u07
                have := i_eq (show v441 30 0 8 = v439 30 0 8 by rw [ev441]; exact up3_t (by decide))
                have := i_eq (show v441 30 0 11 = v439 30 0 11 by rw [ev441]; exact up3_t (by decide))
                have := i_eq (show v441 30 0 12 = v439 30 0 12 by rw [ev441]; exact up3_t (by decide))
                (try have := i_eq (show v441 37 0 3 = v439 37 0 3 by rw [ev441]; exact up3_j (tcne (by omega) (by omega))))
                (try have := i_eq (show v441 37 0 4 = v439 37 0 4 by rw [ev441]; exact up3_j (tcne (by omega) (by omega))))
                have : ((v441 36 0 3).toInt = 0 ∧ (v441 36 0 4).toInt = 0) ∨ (0 < (v441 36 0 3).toInt ∧ 0 < (v441 36 0 4).toInt) := hI_v441.2.1
                refine ok_let (fun v442 ev442 => ?_)
                have hI_v442 : IM v442 := by
                  rw [ev442]
                  refine hI_v441.upo (by decide) ?_
                  show (0 : Int) ≤ Int32.toInt ((v441 37 0 3) + 1) ∧ Int32.toInt ((v441 37 0 3) + 1) ≤ (6 : Int)
                  have : (0 : Int) ≤ (v441 37 0 3).toInt ∧ (v441 37 0 3).toInt ≤ (6 : Int) := hI_v441.1 37 0 3
                  have : (1 : Int32).toInt = 1 := (by decide)
                  have := i_bd (v441 37 0 3)
                  (first | have := sp_addx (v441 37 0 3) (1 : Int32) (by omega) | obtain ⟨k313, hk313⟩ := sp_add (v441 37 0 3) (1 : Int32))
                  omega
                have := i_eq (show v442 30 0 8 = v441 30 0 8 by rw [ev442]; exact up3_t (by decide))
                have := i_eq (show v442 30 0 11 = v441 30 0 11 by rw [ev442]; exact up3_t (by decide))
                have := i_eq (show v442 30 0 12 = v441 30 0 12 by rw [ev442]; exact up3_t (by decide))
                have := i_eq (show v442 37 0 3 = ((v441 37 0 3) + 1) by rw [ev442]; exact up3_s)
                have : (0 : Int) ≤ (v441 37 0 3).toInt ∧ (v441 37 0 3).toInt ≤ (6 : Int) := hI_v441.1 37 0 3
                have : (1 : Int32).toInt = 1 := (by decide)
                have := i_bd (v441 37 0 3)
                (first | have := sp_addx (v441 37 0 3) (1 : Int32) (by omega) | obtain ⟨k314, hk314⟩ := sp_add (v441 37 0 3) (1 : Int32))
                have := i_eq (show v442 37 0 4 = v441 37 0 4 by rw [ev442]; exact up3_j (by decide))
                have : ((v442 36 0 3).toInt = 0 ∧ (v442 36 0 4).toInt = 0) ∨ (0 < (v442 36 0 3).toInt ∧ 0 < (v442 36 0 4).toInt) := hI_v442.2.1
                refine ok_some ?_
                show IM v442 ∧ (Int32.toInt (v442 37 0 4) = Int32.toInt (v 37 0 4)) ∧ ((Int32.toInt (v 30 0 8) < 0 ∧ Int32.toInt (v442 37 0 3) = Int32.toInt (v 37 0 3) + 1) ∨ 0 ≤ Int32.toInt (v442 30 0 8))
                refine ⟨hI_v442, ?_⟩
                omega
  · skip
    have ic1 := i_nle c1
    have : (0 : Int) ≤ (v 37 0 3).toInt ∧ (v 37 0 3).toInt ≤ (6 : Int) := hI_v.1 37 0 3
    have : (6 : Int32).toInt = 6 := (by decide)
    refine ok_kb2 (k_X8_takes v hI_v 1 3 ) (fun r444 v445 hr444 => ?_)
    have hr444 : IM v445 ∧ (Int32.toInt (v445 37 0 3) = Int32.toInt (v 37 0 3)) ∧ (Int32.toInt (v445 37 0 4) = Int32.toInt (v 37 0 4)) ∧ (Int32.toInt (v 30 0 8) < 0 ∨ 0 ≤ Int32.toInt (v445 30 0 8)) ∧ (¬ Int32.toInt 1 = 0 ∨ 0 ≤ Int32.toInt (v445 30 0 8)) ∧ (Int32.toInt r444 = 0 ∨ (Int32.toInt r444 = Int32.toInt (v 30 0 12) ∧ ¬ Int32.toInt 1 = 0)) := hr444
    obtain ⟨hI_v445, hr444⟩ := hr444
    have : ((v445 36 0 3).toInt = 0 ∧ (v445 36 0 4).toInt = 0) ∨ (0 < (v445 36 0 3).toInt ∧ 0 < (v445 36 0 4).toInt) := hI_v445.2.1
    have : (0 : Int) ≤ (v 37 0 3).toInt ∧ (v 37 0 3).toInt ≤ (6 : Int) := hI_v.1 37 0 3
    have : (0 : Int) ≤ (v 37 0 4).toInt ∧ (v 37 0 4).toInt ≤ (4 : Int) := hI_v.1 37 0 4
    have : (-1 : Int) ≤ (v 30 0 8).toInt ∧ (v 30 0 8).toInt ≤ (100 : Int) := hI_v.1 30 0 8
    have : (1 : Int32).toInt = 1 := (by decide)
    have : (3 : Int32).toInt = 3 := (by decide)
    refine ok_ite _ (fun c446 => ?_) (fun c446 => ?_)
    · skip
      have ic446 := i_le c446
      have : (0 : Int) ≤ (v445 37 0 3).toInt ∧ (v445 37 0 3).toInt ≤ (6 : Int) := hI_v445.1 37 0 3
      have : (6 : Int32).toInt = 6 := (by decide)
      refine ok_kb2 (k_X8_letterOf v445 hI_v445  ) (fun r448 v449 hr448 => ?_)
      have hr448 : IM v449 ∧ (Int32.toInt (v449 37 0 3) = Int32.toInt (v445 37 0 3)) ∧ (Int32.toInt (v449 37 0 4) = Int32.toInt (v445 37 0 4)) ∧ (Int32.toInt (v445 30 0 8) < 0 ∨ 0 ≤ Int32.toInt (v449 30 0 8)) := hr448
      obtain ⟨hI_v449, hr448⟩ := hr448
      have : ((v449 36 0 3).toInt = 0 ∧ (v449 36 0 4).toInt = 0) ∨ (0 < (v449 36 0 3).toInt ∧ 0 < (v449 36 0 4).toInt) := hI_v449.2.1
      have : (0 : Int) ≤ (v445 37 0 3).toInt ∧ (v445 37 0 3).toInt ≤ (6 : Int) := hI_v445.1 37 0 3
      have : (0 : Int) ≤ (v445 37 0 4).toInt ∧ (v445 37 0 4).toInt ≤ (4 : Int) := hI_v445.1 37 0 4
      have : (-1 : Int) ≤ (v445 30 0 8).toInt ∧ (v445 30 0 8).toInt ≤ (100 : Int) := hI_v445.1 30 0 8
      refine ok_kb2 (k_X8_letterOf v449 hI_v449  ) (fun r451 v452 hr451 => ?_)
      have hr451 : IM v452 ∧ (Int32.toInt (v452 37 0 3) = Int32.toInt (v449 37 0 3)) ∧ (Int32.toInt (v452 37 0 4) = Int32.toInt (v449 37 0 4)) ∧ (Int32.toInt (v449 30 0 8) < 0 ∨ 0 ≤ Int32.toInt (v452 30 0 8)) := hr451
      obtain ⟨hI_v452, hr451⟩ := hr451
      have : ((v452 36 0 3).toInt = 0 ∧ (v452 36 0 4).toInt = 0) ∨ (0 < (v452 36 0 3).toInt ∧ 0 < (v452 36 0 4).toInt) := hI_v452.2.1
      have : (0 : Int) ≤ (v449 37 0 3).toInt ∧ (v449 37 0 3).toInt ≤ (6 : Int) := hI_v449.1 37 0 3
      have : (0 : Int) ≤ (v449 37 0 4).toInt ∧ (v449 37 0 4).toInt ≤ (4 : Int) := hI_v449.1 37 0 4
      have : (-1 : Int) ≤ (v449 30 0 8).toInt ∧ (v449 30 0 8).toInt ≤ (100 : Int) := hI_v449.1 30 0 8
      refine ok_bind (k_X8_isWell v452 hI_v452  ) (fun r454 hr454 => ?_)
      have hr454 : (0 : Int) ≤ Int32.toInt r454 ∧ Int32.toInt r454 ≤ (1 : Int) ∧ ((Int32.toInt r454 = 0 ∧ 0 ≤ Int32.toInt (v452 30 0 8)) ∨ (Int32.toInt r454 = 1 ∧ Int32.toInt (v452 30 0 8) < 0)) := hr454
      have : (-1 : Int) ≤ (v452 30 0 8).toInt ∧ (v452 30 0 8).toInt ≤ (100 : Int) := hI_v452.1 30 0 8
      refine ok_ite _ (fun c456 => ?_) (fun c456 => ?_)
      · skip
        have ic456 := i_eq c456
        have : (0 : Int32).toInt = 0 := (by decide)
        refine ok_bind (k_X8_isTold v452 hI_v452 r448 r451 ((v452 30 0 12) - 97) ) (fun r458 hr458 => ?_)
        have hr458 : (0 : Int) ≤ Int32.toInt r458 ∧ Int32.toInt r458 ≤ (1 : Int) := hr458
        refine ok_ite _ (fun c460 => ?_) (fun c460 => ?_)
        · skip
          have ic460 := i_eq c460
          have : (0 : Int32).toInt = 0 := (by decide)
          refine ok_kb2 (k_X8_takes v452 hI_v452 1 2 ) (fun r462 v463 hr462 => ?_)
          have hr462 : IM v463 ∧ (Int32.toInt (v463 37 0 3) = Int32.toInt (v452 37 0 3)) ∧ (Int32.toInt (v463 37 0 4) = Int32.toInt (v452 37 0 4)) ∧ (Int32.toInt (v452 30 0 8) < 0 ∨ 0 ≤ Int32.toInt (v463 30 0 8)) ∧ (¬ Int32.toInt 1 = 0 ∨ 0 ≤ Int32.toInt (v463 30 0 8)) ∧ (Int32.toInt r462 = 0 ∨ (Int32.toInt r462 = Int32.toInt (v452 30 0 12) ∧ ¬ Int32.toInt 1 = 0)) := hr462
          obtain ⟨hI_v463, hr462⟩ := hr462
          have : ((v463 36 0 3).toInt = 0 ∧ (v463 36 0 4).toInt = 0) ∨ (0 < (v463 36 0 3).toInt ∧ 0 < (v463 36 0 4).toInt) := hI_v463.2.1
          have : (0 : Int) ≤ (v452 37 0 3).toInt ∧ (v452 37 0 3).toInt ≤ (6 : Int) := hI_v452.1 37 0 3
          have : (0 : Int) ≤ (v452 37 0 4).toInt ∧ (v452 37 0 4).toInt ≤ (4 : Int) := hI_v452.1 37 0 4
          have : (-1 : Int) ≤ (v452 30 0 8).toInt ∧ (v452 30 0 8).toInt ≤ (100 : Int) := hI_v452.1 30 0 8
          have : (1 : Int32).toInt = 1 := (by decide)
          have : (2 : Int32).toInt = 2 := (by decide)
          refine ok_ite _ (fun c464 => ?_) (fun c464 => ?_)
          · skip
            have ic464 := i_eq c464
            have : (0 : Int) ≤ (v463 30 0 11).toInt ∧ (v463 30 0 11).toInt ≤ (5 : Int) := hI_v463.1 30 0 11
            have : (4 : Int32).toInt = 4 := (by decide)
            refine ok_kb2 (k_X8_takes v463 hI_v463 1 1 ) (fun r466 v467 hr466 => ?_)
            have hr466 : IM v467 ∧ (Int32.toInt (v467 37 0 3) = Int32.toInt (v463 37 0 3)) ∧ (Int32.toInt (v467 37 0 4) = Int32.toInt (v463 37 0 4)) ∧ (Int32.toInt (v463 30 0 8) < 0 ∨ 0 ≤ Int32.toInt (v467 30 0 8)) ∧ (¬ Int32.toInt 1 = 0 ∨ 0 ≤ Int32.toInt (v467 30 0 8)) ∧ (Int32.toInt r466 = 0 ∨ (Int32.toInt r466 = Int32.toInt (v463 30 0 12) ∧ ¬ Int32.toInt 1 = 0)) := hr466
            obtain ⟨hI_v467, hr466⟩ := hr466
            have : ((v467 36 0 3).toInt = 0 ∧ (v467 36 0 4).toInt = 0) ∨ (0 < (v467 36 0 3).toInt ∧ 0 < (v467 36 0 4).toInt) := hI_v467.2.1
            have : (0 : Int) ≤ (v463 37 0 3).toInt ∧ (v463 37 0 3).toInt ≤ (6 : Int) := hI_v463.1 37 0 3
            have : (0 : Int) ≤ (v463 37 0 4).toInt ∧ (v463 37 0 4).toInt ≤ (4 : Int) := hI_v463.1 37 0 4
            have : (-1 : Int) ≤ (v463 30 0 8).toInt ∧ (v463 30 0 8).toInt ≤ (100 : Int) := hI_v463.1 30 0 8
            have : (1 : Int32).toInt = 1 := (by decide)
            refine ok_bind (k_X8_isWell v467 hI_v467  ) (fun r469 hr469 => ?_)
            have hr469 : (0 : Int) ≤ Int32.toInt r469 ∧ Int32.toInt r469 ≤ (1 : Int) ∧ ((Int32.toInt r469 = 0 ∧ 0 ≤ Int32.toInt (v467 30 0 8)) ∨ (Int32.toInt r469 = 1 ∧ Int32.toInt (v467 30 0 8) < 0)) := hr469
            have : (-1 : Int) ≤ (v467 30 0 8).toInt ∧ (v467 30 0 8).toInt ≤ (100 : Int) := hI_v467.1 30 0 8
            refine ok_ite _ (fun c471 => ?_) (fun c471 => ?_)
            · skip
              have ic471 := i_eq c471
              have : (0 : Int32).toInt = 0 := (by decide)
              refine ok_some ?_
              show IM v467 ∧ (Int32.toInt (v467 37 0 4) = Int32.toInt (v 37 0 4)) ∧ ((Int32.toInt (v 30 0 8) < 0 ∧ Int32.toInt (v467 37 0 3) = Int32.toInt (v 37 0 3) + 1) ∨ 0 ≤ Int32.toInt (v467 30 0 8))
              refine ⟨hI_v467, ?_⟩
              omega
            · skip
              have ic471 := i_ne c471
              have : (0 : Int32).toInt = 0 := (by decide)
              refine ok_grd _ ?_ ?_
              · skip
                have : (8 : Int32).toInt = 8 := (by decide)
                have : (3 : Int32).toInt = 3 := (by decide)
                have : (0 : Int32).toInt = 0 := (by decide)
                (first | have := sp_mulcx (3 : Int32) (0 : Int32) 0 (by decide) (by omega) | obtain ⟨k315, hk315⟩ := sp_mulc (3 : Int32) (0 : Int32) 0 (by decide))
                (first | have := sp_addx (8 : Int32) ((3 : Int32) * 0) (by omega) | obtain ⟨k316, hk316⟩ := sp_add (8 : Int32) ((3 : Int32) * 0))
                exact gr (by omega) (by omega)
              refine ok_let (fun v473 ev473 => ?_)
              have : (8 : Int32).toInt = 8 := (by decide)
              have : (3 : Int32).toInt = 3 := (by decide)
              have : (0 : Int32).toInt = 0 := (by decide)
              (first | have := sp_mulcx (3 : Int32) (0 : Int32) 0 (by decide) (by omega) | obtain ⟨k317, hk317⟩ := sp_mulc (3 : Int32) (0 : Int32) 0 (by decide))
              (first | have := sp_addx (8 : Int32) ((3 : Int32) * 0) (by omega) | obtain ⟨k318, hk318⟩ := sp_add (8 : Int32) ((3 : Int32) * 0))
              have hI_v473 : IM v473 := by
                rw [ev473]
                first | exact hI_v467.um7 (by omega) (by omega) | exact hI_v467.u07
              have := i_eq (show v473 30 0 8 = v467 30 0 8 by rw [ev473]; exact up3_t (by decide))
              have := i_eq (show v473 30 0 11 = v467 30 0 11 by rw [ev473]; exact up3_t (by decide))
              have := i_eq (show v473 30 0 12 = v467 30 0 12 by rw [ev473]; exact up3_t (by decide))
              (try have := i_eq (show v473 37 0 3 = v467 37 0 3 by rw [ev473]; exact up3_j (tcne (by omega) (by omega))))
              (try have := i_eq (show v473 37 0 4 = v467 37 0 4 by rw [ev473]; exact up3_j (tcne (by omega) (by omega))))
              have : ((v473 36 0 3).toInt = 0 ∧ (v473 36 0 4).toInt = 0) ∨ (0 < (v473 36 0 3).toInt ∧ 0 < (v473 36 0 4).toInt) := hI_v473.2.1
              refine ok_grd _ ?_ ?_
              · skip
                have : (8 : Int32).toInt = 8 := (by decide)
                have : (3 : Int32).toInt = 3 := (by decide)
                have : (0 : Int32).toInt = 0 := (by decide)
                (first | have := sp_mulcx (3 : Int32) (0 : Int32) 0 (by decide) (by omega) | obtain ⟨k319, hk319⟩ := sp_mulc (3 : Int32) (0 : Int32) 0 (by decide))
                (first | have := sp_addx (8 : Int32) ((3 : Int32) * 0) (by omega) | obtain ⟨k320, hk320⟩ := sp_add (8 : Int32) ((3 : Int32) * 0))
                have : (1 : Int32).toInt = 1 := (by decide)
                (first | have := sp_addx ((8 : Int32) + ((3 : Int32) * 0)) (1 : Int32) (by omega) | obtain ⟨k321, hk321⟩ := sp_add ((8 : Int32) + ((3 : Int32) * 0)) (1 : Int32))
                exact gr (by omega) (by omega)
              refine ok_let (fun v475 ev475 => ?_)
              have : (8 : Int32).toInt = 8 := (by decide)
              have : (3 : Int32).toInt = 3 := (by decide)
              have : (0 : Int32).toInt = 0 := (by decide)
              (first | have := sp_mulcx (3 : Int32) (0 : Int32) 0 (by decide) (by omega) | obtain ⟨k322, hk322⟩ := sp_mulc (3 : Int32) (0 : Int32) 0 (by decide))
              (first | have := sp_addx (8 : Int32) ((3 : Int32) * 0) (by omega) | obtain ⟨k323, hk323⟩ := sp_add (8 : Int32) ((3 : Int32) * 0))
              have : (1 : Int32).toInt = 1 := (by decide)
              (first | have := sp_addx ((8 : Int32) + ((3 : Int32) * 0)) (1 : Int32) (by omega) | obtain ⟨k324, hk324⟩ := sp_add ((8 : Int32) + ((3 : Int32) * 0)) (1 : Int32))
              have hI_v475 : IM v475 := by
                rw [ev475]
                first | exact hI_v473.um7 (by omega) (by omega) | exact hI_v473.u07
              have := i_eq (show v475 30 0 8 = v473 30 0 8 by rw [ev475]; exact up3_t (by decide))
              have := i_eq (show v475 30 0 11 = v473 30 0 11 by rw [ev475]; exact up3_t (by decide))
              have := i_eq (show v475 30 0 12 = v473 30 0 12 by rw [ev475]; exact up3_t (by decide))
              (try have := i_eq (show v475 37 0 3 = v473 37 0 3 by rw [ev475]; exact up3_j (tcne (by omega) (by omega))))
              (try have := i_eq (show v475 37 0 4 = v473 37 0 4 by rw [ev475]; exact up3_j (tcne (by omega) (by omega))))
              have : ((v475 36 0 3).toInt = 0 ∧ (v475 36 0 4).toInt = 0) ∨ (0 < (v475 36 0 3).toInt ∧ 0 < (v475 36 0 4).toInt) := hI_v475.2.1
              refine ok_grd _ ?_ ?_
              · skip
                have : (8 : Int32).toInt = 8 := (by decide)
                have : (3 : Int32).toInt = 3 := (by decide)
                have : (0 : Int32).toInt = 0 := (by decide)
                (first | have := sp_mulcx (3 : Int32) (0 : Int32) 0 (by decide) (by omega) | obtain ⟨k325, hk325⟩ := sp_mulc (3 : Int32) (0 : Int32) 0 (by decide))
                (first | have := sp_addx (8 : Int32) ((3 : Int32) * 0) (by omega) | obtain ⟨k326, hk326⟩ := sp_add (8 : Int32) ((3 : Int32) * 0))
                have : (2 : Int32).toInt = 2 := (by decide)
                (first | have := sp_addx ((8 : Int32) + ((3 : Int32) * 0)) (2 : Int32) (by omega) | obtain ⟨k327, hk327⟩ := sp_add ((8 : Int32) + ((3 : Int32) * 0)) (2 : Int32))
                exact gr (by omega) (by omega)
              refine ok_let (fun v477 ev477 => ?_)
              have : (8 : Int32).toInt = 8 := (by decide)
              have : (3 : Int32).toInt = 3 := (by decide)
              have : (0 : Int32).toInt = 0 := (by decide)
              (first | have := sp_mulcx (3 : Int32) (0 : Int32) 0 (by decide) (by omega) | obtain ⟨k328, hk328⟩ := sp_mulc (3 : Int32) (0 : Int32) 0 (by decide))
              (first | have := sp_addx (8 : Int32) ((3 : Int32) * 0) (by omega) | obtain ⟨k329, hk329⟩ := sp_add (8 : Int32) ((3 : Int32) * 0))
              have : (2 : Int32).toInt = 2 := (by decide)
              (first | have := sp_addx ((8 : Int32) + ((3 : Int32) * 0)) (2 : Int32) (by omega) | obtain ⟨k330, hk330⟩ := sp_add ((8 : Int32) + ((3 : Int32) * 0)) (2 : Int32))
              have : (97 : Int32).toInt = 97 := (by decide)
              have := i_bd r462
              (first | have := sp_subx r462 (97 : Int32) (by omega) | obtain ⟨k331, hk331⟩ := sp_sub r462 (97 : Int32))
              have hI_v477 : IM v477 := by
                rw [ev477]
                first | exact hI_v475.um7 (by omega) (by omega) | exact hI_v475.u07
              have := i_eq (show v477 30 0 8 = v475 30 0 8 by rw [ev477]; exact up3_t (by decide))
              have := i_eq (show v477 30 0 11 = v475 30 0 11 by rw [ev477]; exact up3_t (by decide))
              have := i_eq (show v477 30 0 12 = v475 30 0 12 by rw [ev477]; exact up3_t (by decide))
              (try have := i_eq (show v477 37 0 3 = v475 37 0 3 by rw [ev477]; exact up3_j (tcne (by omega) (by omega))))
              (try have := i_eq (show v477 37 0 4 = v475 37 0 4 by rw [ev477]; exact up3_j (tcne (by omega) (by omega))))
              have : ((v477 36 0 3).toInt = 0 ∧ (v477 36 0 4).toInt = 0) ∨ (0 < (v477 36 0 3).toInt ∧ 0 < (v477 36 0 4).toInt) := hI_v477.2.1
              refine ok_let (fun v478 ev478 => ?_)
              have hI_v478 : IM v478 := by
                rw [ev478]
                refine hI_v477.upo (by decide) ?_
                show (0 : Int) ≤ Int32.toInt ((v477 37 0 3) + 1) ∧ Int32.toInt ((v477 37 0 3) + 1) ≤ (6 : Int)
                have : (0 : Int) ≤ (v477 37 0 3).toInt ∧ (v477 37 0 3).toInt ≤ (6 : Int) := hI_v477.1 37 0 3
                have : (1 : Int32).toInt = 1 := (by decide)
                have := i_bd (v477 37 0 3)
                (first | have := sp_addx (v477 37 0 3) (1 : Int32) (by omega) | obtain ⟨k332, hk332⟩ := sp_add (v477 37 0 3) (1 : Int32))
                omega
              have := i_eq (show v478 30 0 8 = v477 30 0 8 by rw [ev478]; exact up3_t (by decide))
              have := i_eq (show v478 30 0 11 = v477 30 0 11 by rw [ev478]; exact up3_t (by decide))
              have := i_eq (show v478 30 0 12 = v477 30 0 12 by rw [ev478]; exact up3_t (by decide))
              have := i_eq (show v478 37 0 3 = ((v477 37 0 3) + 1) by rw [ev478]; exact up3_s)
              have : (0 : Int) ≤ (v477 37 0 3).toInt ∧ (v477 37 0 3).toInt ≤ (6 : Int) := hI_v477.1 37 0 3
              have : (1 : Int32).toInt = 1 := (by decide)
              have := i_bd (v477 37 0 3)
              (first | have := sp_addx (v477 37 0 3) (1 : Int32) (by omega) | obtain ⟨k333, hk333⟩ := sp_add (v477 37 0 3) (1 : Int32))
              have := i_eq (show v478 37 0 4 = v477 37 0 4 by rw [ev478]; exact up3_j (by decide))
              have : ((v478 36 0 3).toInt = 0 ∧ (v478 36 0 4).toInt = 0) ∨ (0 < (v478 36 0 3).toInt ∧ 0 < (v478 36 0 4).toInt) := hI_v478.2.1
              refine ok_some ?_
              show IM v478 ∧ (Int32.toInt (v478 37 0 4) = Int32.toInt (v 37 0 4)) ∧ ((Int32.toInt (v 30 0 8) < 0 ∧ Int32.toInt (v478 37 0 3) = Int32.toInt (v 37 0 3) + 1) ∨ 0 ≤ Int32.toInt (v478 30 0 8))
              refine ⟨hI_v478, ?_⟩
              omega
          · skip
            have ic464 := i_ne c464
            have : (0 : Int) ≤ (v463 30 0 11).toInt ∧ (v463 30 0 11).toInt ≤ (5 : Int) := hI_v463.1 30 0 11
            have : (4 : Int32).toInt = 4 := (by decide)
            refine ok_kb2 (k_X8_takes v463 hI_v463 0 1 ) (fun r480 v481 hr480 => ?_)
            have hr480 : IM v481 ∧ (Int32.toInt (v481 37 0 3) = Int32.toInt (v463 37 0 3)) ∧ (Int32.toInt (v481 37 0 4) = Int32.toInt (v463 37 0 4)) ∧ (Int32.toInt (v463 30 0 8) < 0 ∨ 0 ≤ Int32.toInt (v481 30 0 8)) ∧ (¬ Int32.toInt 0 = 0 ∨ 0 ≤ Int32.toInt (v481 30 0 8)) ∧ (Int32.toInt r480 = 0 ∨ (Int32.toInt r480 = Int32.toInt (v463 30 0 12) ∧ ¬ Int32.toInt 0 = 0)) := hr480
            obtain ⟨hI_v481, hr480⟩ := hr480
            have : ((v481 36 0 3).toInt = 0 ∧ (v481 36 0 4).toInt = 0) ∨ (0 < (v481 36 0 3).toInt ∧ 0 < (v481 36 0 4).toInt) := hI_v481.2.1
            have : (0 : Int) ≤ (v463 37 0 3).toInt ∧ (v463 37 0 3).toInt ≤ (6 : Int) := hI_v463.1 37 0 3
            have : (0 : Int) ≤ (v463 37 0 4).toInt ∧ (v463 37 0 4).toInt ≤ (4 : Int) := hI_v463.1 37 0 4
            have : (-1 : Int) ≤ (v463 30 0 8).toInt ∧ (v463 30 0 8).toInt ≤ (100 : Int) := hI_v463.1 30 0 8
            have : (0 : Int32).toInt = 0 := (by decide)
            have : (1 : Int32).toInt = 1 := (by decide)
            refine ok_bind (k_X8_isWell v481 hI_v481  ) (fun r483 hr483 => ?_)
            have hr483 : (0 : Int) ≤ Int32.toInt r483 ∧ Int32.toInt r483 ≤ (1 : Int) ∧ ((Int32.toInt r483 = 0 ∧ 0 ≤ Int32.toInt (v481 30 0 8)) ∨ (Int32.toInt r483 = 1 ∧ Int32.toInt (v481 30 0 8) < 0)) := hr483
            have : (-1 : Int) ≤ (v481 30 0 8).toInt ∧ (v481 30 0 8).toInt ≤ (100 : Int) := hI_v481.1 30 0 8
            refine ok_ite _ (fun c485 => ?_) (fun c485 => ?_)
            · skip
              have ic485 := i_eq c485
              have : (0 : Int32).toInt = 0 := (by decide)
              refine ok_some ?_
              show IM v481 ∧ (Int32.toInt (v481 37 0 4) = Int32.toInt (v 37 0 4)) ∧ ((Int32.toInt (v 30 0 8) < 0 ∧ Int32.toInt (v481 37 0 3) = Int32.toInt (v 37 0 3) + 1) ∨ 0 ≤ Int32.toInt (v481 30 0 8))
              refine ⟨hI_v481, ?_⟩
              omega
            · skip
              have ic485 := i_ne c485
              have : (0 : Int32).toInt = 0 := (by decide)
              refine ok_grd _ ?_ ?_
              · skip
                have : (8 : Int32).toInt = 8 := (by decide)
                have : (3 : Int32).toInt = 3 := (by decide)
                have : (0 : Int32).toInt = 0 := (by decide)
                (first | have := sp_mulcx (3 : Int32) (0 : Int32) 0 (by decide) (by omega) | obtain ⟨k334, hk334⟩ := sp_mulc (3 : Int32) (0 : Int32) 0 (by decide))
                (first | have := sp_addx (8 : Int32) ((3 : Int32) * 0) (by omega) | obtain ⟨k335, hk335⟩ := sp_add (8 : Int32) ((3 : Int32) * 0))
                exact gr (by omega) (by omega)
              refine ok_let (fun v487 ev487 => ?_)
              have : (8 : Int32).toInt = 8 := (by decide)
              have : (3 : Int32).toInt = 3 := (by decide)
              have : (0 : Int32).toInt = 0 := (by decide)
              (first | have := sp_mulcx (3 : Int32) (0 : Int32) 0 (by decide) (by omega) | obtain ⟨k336, hk336⟩ := sp_mulc (3 : Int32) (0 : Int32) 0 (by decide))
              (first | have := sp_addx (8 : Int32) ((3 : Int32) * 0) (by omega) | obtain ⟨k337, hk337⟩ := sp_add (8 : Int32) ((3 : Int32) * 0))
              have hI_v487 : IM v487 := by
                rw [ev487]
                first | exact hI_v481.um7 (by omega) (by omega) | exact hI_v481.u07
              have := i_eq (show v487 30 0 8 = v481 30 0 8 by rw [ev487]; exact up3_t (by decide))
              have := i_eq (show v487 30 0 11 = v481 30 0 11 by rw [ev487]; exact up3_t (by decide))
              have := i_eq (show v487 30 0 12 = v481 30 0 12 by rw [ev487]; exact up3_t (by decide))
              (try have := i_eq (show v487 37 0 3 = v481 37 0 3 by rw [ev487]; exact up3_j (tcne (by omega) (by omega))))
              (try have := i_eq (show v487 37 0 4 = v481 37 0 4 by rw [ev487]; exact up3_j (tcne (by omega) (by omega))))
              have : ((v487 36 0 3).toInt = 0 ∧ (v487 36 0 4).toInt = 0) ∨ (0 < (v487 36 0 3).toInt ∧ 0 < (v487 36 0 4).toInt) := hI_v487.2.1
              refine ok_grd _ ?_ ?_
              · skip
                have : (8 : Int32).toInt = 8 := (by decide)
                have : (3 : Int32).toInt = 3 := (by decide)
                have : (0 : Int32).toInt = 0 := (by decide)
                (first | have := sp_mulcx (3 : Int32) (0 : Int32) 0 (by decide) (by omega) | obtain ⟨k338, hk338⟩ := sp_mulc (3 : Int32) (0 : Int32) 0 (by decide))
                (first | have := sp_addx (8 : Int32) ((3 : Int32) * 0) (by omega) | obtain ⟨k339, hk339⟩ := sp_add (8 : Int32) ((3 : Int32) * 0))
                have : (1 : Int32).toInt = 1 := (by decide)
                (first | have := sp_addx ((8 : Int32) + ((3 : Int32) * 0)) (1 : Int32) (by omega) | obtain ⟨k340, hk340⟩ := sp_add ((8 : Int32) + ((3 : Int32) * 0)) (1 : Int32))
                exact gr (by omega) (by omega)
              refine ok_let (fun v489 ev489 => ?_)
              have : (8 : Int32).toInt = 8 := (by decide)
              have : (3 : Int32).toInt = 3 := (by decide)
              have : (0 : Int32).toInt = 0 := (by decide)
              (first | have := sp_mulcx (3 : Int32) (0 : Int32) 0 (by decide) (by omega) | obtain ⟨k341, hk341⟩ := sp_mulc (3 : Int32) (0 : Int32) 0 (by decide))
              (first | have := sp_addx (8 : Int32) ((3 : Int32) * 0) (by omega) | obtain ⟨k342, hk342⟩ := sp_add (8 : Int32) ((3 : Int32) * 0))
              have : (1 : Int32).toInt = 1 := (by decide)
              (first | have := sp_addx ((8 : Int32) + ((3 : Int32) * 0)) (1 : Int32) (by omega) | obtain ⟨k343, hk343⟩ := sp_add ((8 : Int32) + ((3 : Int32) * 0)) (1 : Int32))
              have hI_v489 : IM v489 := by
                rw [ev489]
                first | exact hI_v487.um7 (by omega) (by omega) | exact hI_v487.u07
              have := i_eq (show v489 30 0 8 = v487 30 0 8 by rw [ev489]; exact up3_t (by decide))
              have := i_eq (show v489 30 0 11 = v487 30 0 11 by rw [ev489]; exact up3_t (by decide))
              have := i_eq (show v489 30 0 12 = v487 30 0 12 by rw [ev489]; exact up3_t (by decide))
              (try have := i_eq (show v489 37 0 3 = v487 37 0 3 by rw [ev489]; exact up3_j (tcne (by omega) (by omega))))
              (try have := i_eq (show v489 37 0 4 = v487 37 0 4 by rw [ev489]; exact up3_j (tcne (by omega) (by omega))))
              have : ((v489 36 0 3).toInt = 0 ∧ (v489 36 0 4).toInt = 0) ∨ (0 < (v489 36 0 3).toInt ∧ 0 < (v489 36 0 4).toInt) := hI_v489.2.1
              refine ok_grd _ ?_ ?_
              · skip
                have : (8 : Int32).toInt = 8 := (by decide)
                have : (3 : Int32).toInt = 3 := (by decide)
                have : (0 : Int32).toInt = 0 := (by decide)
                (first | have := sp_mulcx (3 : Int32) (0 : Int32) 0 (by decide) (by omega) | obtain ⟨k344, hk344⟩ := sp_mulc (3 : Int32) (0 : Int32) 0 (by decide))
                (first | have := sp_addx (8 : Int32) ((3 : Int32) * 0) (by omega) | obtain ⟨k345, hk345⟩ := sp_add (8 : Int32) ((3 : Int32) * 0))
                have : (2 : Int32).toInt = 2 := (by decide)
                (first | have := sp_addx ((8 : Int32) + ((3 : Int32) * 0)) (2 : Int32) (by omega) | obtain ⟨k346, hk346⟩ := sp_add ((8 : Int32) + ((3 : Int32) * 0)) (2 : Int32))
                exact gr (by omega) (by omega)
              refine ok_let (fun v491 ev491 => ?_)
              have : (8 : Int32).toInt = 8 := (by decide)
              have : (3 : Int32).toInt = 3 := (by decide)
              have : (0 : Int32).toInt = 0 := (by decide)
              (first | have := sp_mulcx (3 : Int32) (0 : Int32) 0 (by decide) (by omega) | obtain ⟨k347, hk347⟩ := sp_mulc (3 : Int32) (0 : Int32) 0 (by decide))
              (first | have := sp_addx (8 : Int32) ((3 : Int32) * 0) (by omega) | obtain ⟨k348, hk348⟩ := sp_add (8 : Int32) ((3 : Int32) * 0))
              have : (2 : Int32).toInt = 2 := (by decide)
              (first | have := sp_addx ((8 : Int32) + ((3 : Int32) * 0)) (2 : Int32) (by omega) | obtain ⟨k349, hk349⟩ := sp_add ((8 : Int32) + ((3 : Int32) * 0)) (2 : Int32))
              have : (97 : Int32).toInt = 97 := (by decide)
              have := i_bd r462
              (first | have := sp_subx r462 (97 : Int32) (by omega) | obtain ⟨k350, hk350⟩ := sp_sub r462 (97 : Int32))
              have hI_v491 : IM v491 := by
                rw [ev491]
                first | exact hI_v489.um7 (by omega) (by omega) | exact hI_v489.u07
              have := i_eq (show v491 30 0 8 = v489 30 0 8 by rw [ev491]; exact up3_t (by decide))
              have := i_eq (show v491 30 0 11 = v489 30 0 11 by rw [ev491]; exact up3_t (by decide))
              have := i_eq (show v491 30 0 12 = v489 30 0 12 by rw [ev491]; exact up3_t (by decide))
              (try have := i_eq (show v491 37 0 3 = v489 37 0 3 by rw [ev491]; exact up3_j (tcne (by omega) (by omega))))
              (try have := i_eq (show v491 37 0 4 = v489 37 0 4 by rw [ev491]; exact up3_j (tcne (by omega) (by omega))))
              have : ((v491 36 0 3).toInt = 0 ∧ (v491 36 0 4).toInt = 0) ∨ (0 < (v491 36 0 3).toInt ∧ 0 < (v491 36 0 4).toInt) := hI_v491.2.1
              refine ok_let (fun v492 ev492 => ?_)
              have hI_v492 : IM v492 := by
                rw [ev492]
                refine hI_v491.upo (by decide) ?_
                show (0 : Int) ≤ Int32.toInt ((v491 37 0 3) + 1) ∧ Int32.toInt ((v491 37 0 3) + 1) ≤ (6 : Int)
                have : (0 : Int) ≤ (v491 37 0 3).toInt ∧ (v491 37 0 3).toInt ≤ (6 : Int) := hI_v491.1 37 0 3
                have : (1 : Int32).toInt = 1 := (by decide)
                have := i_bd (v491 37 0 3)
                (first | have := sp_addx (v491 37 0 3) (1 : Int32) (by omega) | obtain ⟨k351, hk351⟩ := sp_add (v491 37 0 3) (1 : Int32))
                omega
              have := i_eq (show v492 30 0 8 = v491 30 0 8 by rw [ev492]; exact up3_t (by decide))
              have := i_eq (show v492 30 0 11 = v491 30 0 11 by rw [ev492]; exact up3_t (by decide))
              have := i_eq (show v492 30 0 12 = v491 30 0 12 by rw [ev492]; exact up3_t (by decide))
              have := i_eq (show v492 37 0 3 = ((v491 37 0 3) + 1) by rw [ev492]; exact up3_s)
              have : (0 : Int) ≤ (v491 37 0 3).toInt ∧ (v491 37 0 3).toInt ≤ (6 : Int) := hI_v491.1 37 0 3
              have : (1 : Int32).toInt = 1 := (by decide)
              have := i_bd (v491 37 0 3)
              (first | have := sp_addx (v491 37 0 3) (1 : Int32) (by omega) | obtain ⟨k352, hk352⟩ := sp_add (v491 37 0 3) (1 : Int32))
              have := i_eq (show v492 37 0 4 = v491 37 0 4 by rw [ev492]; exact up3_j (by decide))
              have : ((v492 36 0 3).toInt = 0 ∧ (v492 36 0 4).toInt = 0) ∨ (0 < (v492 36 0 3).toInt ∧ 0 < (v492 36 0 4).toInt) := hI_v492.2.1
              refine ok_some ?_
              show IM v492 ∧ (Int32.toInt (v492 37 0 4) = Int32.toInt (v 37 0 4)) ∧ ((Int32.toInt (v 30 0 8) < 0 ∧ Int32.toInt (v492 37 0 3) = Int32.toInt (v 37 0 3) + 1) ∨ 0 ≤ Int32.toInt (v492 30 0 8))
              refine ⟨hI_v492, ?_⟩
              omega
        · skip
          have ic460 := i_ne c460
          have : (0 : Int32).toInt = 0 := (by decide)
          refine ok_kb2 (k_X8_takes v452 hI_v452 0 2 ) (fun r494 v495 hr494 => ?_)
          have hr494 : IM v495 ∧ (Int32.toInt (v495 37 0 3) = Int32.toInt (v452 37 0 3)) ∧ (Int32.toInt (v495 37 0 4) = Int32.toInt (v452 37 0 4)) ∧ (Int32.toInt (v452 30 0 8) < 0 ∨ 0 ≤ Int32.toInt (v495 30 0 8)) ∧ (¬ Int32.toInt 0 = 0 ∨ 0 ≤ Int32.toInt (v495 30 0 8)) ∧ (Int32.toInt r494 = 0 ∨ (Int32.toInt r494 = Int32.toInt (v452 30 0 12) ∧ ¬ Int32.toInt 0 = 0)) := hr494
          obtain ⟨hI_v495, hr494⟩ := hr494
          have : ((v495 36 0 3).toInt = 0 ∧ (v495 36 0 4).toInt = 0) ∨ (0 < (v495 36 0 3).toInt ∧ 0 < (v495 36 0 4).toInt) := hI_v495.2.1
          have : (0 : Int) ≤ (v452 37 0 3).toInt ∧ (v452 37 0 3).toInt ≤ (6 : Int) := hI_v452.1 37 0 3
          have : (0 : Int) ≤ (v452 37 0 4).toInt ∧ (v452 37 0 4).toInt ≤ (4 : Int) := hI_v452.1 37 0 4
          have : (-1 : Int) ≤ (v452 30 0 8).toInt ∧ (v452 30 0 8).toInt ≤ (100 : Int) := hI_v452.1 30 0 8
          have : (0 : Int32).toInt = 0 := (by decide)
          have : (2 : Int32).toInt = 2 := (by decide)
          refine ok_ite _ (fun c496 => ?_) (fun c496 => ?_)
          · skip
            have ic496 := i_eq c496
            have : (0 : Int) ≤ (v495 30 0 11).toInt ∧ (v495 30 0 11).toInt ≤ (5 : Int) := hI_v495.1 30 0 11
            have : (4 : Int32).toInt = 4 := (by decide)
            refine ok_kb2 (k_X8_takes v495 hI_v495 1 1 ) (fun r498 v499 hr498 => ?_)
            have hr498 : IM v499 ∧ (Int32.toInt (v499 37 0 3) = Int32.toInt (v495 37 0 3)) ∧ (Int32.toInt (v499 37 0 4) = Int32.toInt (v495 37 0 4)) ∧ (Int32.toInt (v495 30 0 8) < 0 ∨ 0 ≤ Int32.toInt (v499 30 0 8)) ∧ (¬ Int32.toInt 1 = 0 ∨ 0 ≤ Int32.toInt (v499 30 0 8)) ∧ (Int32.toInt r498 = 0 ∨ (Int32.toInt r498 = Int32.toInt (v495 30 0 12) ∧ ¬ Int32.toInt 1 = 0)) := hr498
            obtain ⟨hI_v499, hr498⟩ := hr498
            have : ((v499 36 0 3).toInt = 0 ∧ (v499 36 0 4).toInt = 0) ∨ (0 < (v499 36 0 3).toInt ∧ 0 < (v499 36 0 4).toInt) := hI_v499.2.1
            have : (0 : Int) ≤ (v495 37 0 3).toInt ∧ (v495 37 0 3).toInt ≤ (6 : Int) := hI_v495.1 37 0 3
            have : (0 : Int) ≤ (v495 37 0 4).toInt ∧ (v495 37 0 4).toInt ≤ (4 : Int) := hI_v495.1 37 0 4
            have : (-1 : Int) ≤ (v495 30 0 8).toInt ∧ (v495 30 0 8).toInt ≤ (100 : Int) := hI_v495.1 30 0 8
            have : (1 : Int32).toInt = 1 := (by decide)
            refine ok_bind (k_X8_isWell v499 hI_v499  ) (fun r501 hr501 => ?_)
            have hr501 : (0 : Int) ≤ Int32.toInt r501 ∧ Int32.toInt r501 ≤ (1 : Int) ∧ ((Int32.toInt r501 = 0 ∧ 0 ≤ Int32.toInt (v499 30 0 8)) ∨ (Int32.toInt r501 = 1 ∧ Int32.toInt (v499 30 0 8) < 0)) := hr501
            have : (-1 : Int) ≤ (v499 30 0 8).toInt ∧ (v499 30 0 8).toInt ≤ (100 : Int) := hI_v499.1 30 0 8
            refine ok_ite _ (fun c503 => ?_) (fun c503 => ?_)
            · skip
              have ic503 := i_eq c503
              have : (0 : Int32).toInt = 0 := (by decide)
              refine ok_some ?_
              show IM v499 ∧ (Int32.toInt (v499 37 0 4) = Int32.toInt (v 37 0 4)) ∧ ((Int32.toInt (v 30 0 8) < 0 ∧ Int32.toInt (v499 37 0 3) = Int32.toInt (v 37 0 3) + 1) ∨ 0 ≤ Int32.toInt (v499 30 0 8))
              refine ⟨hI_v499, ?_⟩
              omega
            · skip
              have ic503 := i_ne c503
              have : (0 : Int32).toInt = 0 := (by decide)
              refine ok_grd _ ?_ ?_
              · skip
                have : (8 : Int32).toInt = 8 := (by decide)
                have : (3 : Int32).toInt = 3 := (by decide)
                have : (0 : Int32).toInt = 0 := (by decide)
                (first | have := sp_mulcx (3 : Int32) (0 : Int32) 0 (by decide) (by omega) | obtain ⟨k353, hk353⟩ := sp_mulc (3 : Int32) (0 : Int32) 0 (by decide))
                (first | have := sp_addx (8 : Int32) ((3 : Int32) * 0) (by omega) | obtain ⟨k354, hk354⟩ := sp_add (8 : Int32) ((3 : Int32) * 0))
                exact gr (by omega) (by omega)
              refine ok_let (fun v505 ev505 => ?_)
              have : (8 : Int32).toInt = 8 := (by decide)
              have : (3 : Int32).toInt = 3 := (by decide)
              have : (0 : Int32).toInt = 0 := (by decide)
              (first | have := sp_mulcx (3 : Int32) (0 : Int32) 0 (by decide) (by omega) | obtain ⟨k355, hk355⟩ := sp_mulc (3 : Int32) (0 : Int32) 0 (by decide))
              (first | have := sp_addx (8 : Int32) ((3 : Int32) * 0) (by omega) | obtain ⟨k356, hk356⟩ := sp_add (8 : Int32) ((3 : Int32) * 0))
              have hI_v505 : IM v505 := by
                rw [ev505]
                first | exact hI_v499.um7 (by omega) (by omega) | exact hI_v499.u07
              have := i_eq (show v505 30 0 8 = v499 30 0 8 by rw [ev505]; exact up3_t (by decide))
              have := i_eq (show v505 30 0 11 = v499 30 0 11 by rw [ev505]; exact up3_t (by decide))
              have := i_eq (show v505 30 0 12 = v499 30 0 12 by rw [ev505]; exact up3_t (by decide))
              (try have := i_eq (show v505 37 0 3 = v499 37 0 3 by rw [ev505]; exact up3_j (tcne (by omega) (by omega))))
              (try have := i_eq (show v505 37 0 4 = v499 37 0 4 by rw [ev505]; exact up3_j (tcne (by omega) (by omega))))
              have : ((v505 36 0 3).toInt = 0 ∧ (v505 36 0 4).toInt = 0) ∨ (0 < (v505 36 0 3).toInt ∧ 0 < (v505 36 0 4).toInt) := hI_v505.2.1
              refine ok_grd _ ?_ ?_
              · skip
                have : (8 : Int32).toInt = 8 := (by decide)
                have : (3 : Int32).toInt = 3 := (by decide)
                have : (0 : Int32).toInt = 0 := (by decide)
                (first | have := sp_mulcx (3 : Int32) (0 : Int32) 0 (by decide) (by omega) | obtain ⟨k357, hk357⟩ := sp_mulc (3 : Int32) (0 : Int32) 0 (by decide))
                (first | have := sp_addx (8 : Int32) ((3 : Int32) * 0) (by omega) | obtain ⟨k358, hk358⟩ := sp_add (8 : Int32) ((3 : Int32) * 0))
                have : (1 : Int32).toInt = 1 := (by decide)
                (first | have := sp_addx ((8 : Int32) + ((3 : Int32) * 0)) (1 : Int32) (by omega) | obtain ⟨k359, hk359⟩ := sp_add ((8 : Int32) + ((3 : Int32) * 0)) (1 : Int32))
                exact gr (by omega) (by omega)
              refine ok_let (fun v507 ev507 => ?_)
              have : (8 : Int32).toInt = 8 := (by decide)
              have : (3 : Int32).toInt = 3 := (by decide)
              have : (0 : Int32).toInt = 0 := (by decide)
              (first | have := sp_mulcx (3 : Int32) (0 : Int32) 0 (by decide) (by omega) | obtain ⟨k360, hk360⟩ := sp_mulc (3 : Int32) (0 : Int32) 0 (by decide))
              (first | have := sp_addx (8 : Int32) ((3 : Int32) * 0) (by omega) | obtain ⟨k361, hk361⟩ := sp_add (8 : Int32) ((3 : Int32) * 0))
              have : (1 : Int32).toInt = 1 := (by decide)
              (first | have := sp_addx ((8 : Int32) + ((3 : Int32) * 0)) (1 : Int32) (by omega) | obtain ⟨k362, hk362⟩ := sp_add ((8 : Int32) + ((3 : Int32) * 0)) (1 : Int32))
              have hI_v507 : IM v507 := by
                rw [ev507]
                first | exact hI_v505.um7 (by omega) (by omega) | exact hI_v505.u07
              have := i_eq (show v507 30 0 8 = v505 30 0 8 by rw [ev507]; exact up3_t (by decide))
              have := i_eq (show v507 30 0 11 = v505 30 0 11 by rw [ev507]; exact up3_t (by decide))
              have := i_eq (show v507 30 0 12 = v505 30 0 12 by rw [ev507]; exact up3_t (by decide))
              (try have := i_eq (show v507 37 0 3 = v505 37 0 3 by rw [ev507]; exact up3_j (tcne (by omega) (by omega))))
              (try have := i_eq (show v507 37 0 4 = v505 37 0 4 by rw [ev507]; exact up3_j (tcne (by omega) (by omega))))
              have : ((v507 36 0 3).toInt = 0 ∧ (v507 36 0 4).toInt = 0) ∨ (0 < (v507 36 0 3).toInt ∧ 0 < (v507 36 0 4).toInt) := hI_v507.2.1
              refine ok_grd _ ?_ ?_
              · skip
                have : (8 : Int32).toInt = 8 := (by decide)
                have : (3 : Int32).toInt = 3 := (by decide)
                have : (0 : Int32).toInt = 0 := (by decide)
                (first | have := sp_mulcx (3 : Int32) (0 : Int32) 0 (by decide) (by omega) | obtain ⟨k363, hk363⟩ := sp_mulc (3 : Int32) (0 : Int32) 0 (by decide))
                (first | have := sp_addx (8 : Int32) ((3 : Int32) * 0) (by omega) | obtain ⟨k364, hk364⟩ := sp_add (8 : Int32) ((3 : Int32) * 0))
                have : (2 : Int32).toInt = 2 := (by decide)
                (first | have := sp_addx ((8 : Int32) + ((3 : Int32) * 0)) (2 : Int32) (by omega) | obtain ⟨k365, hk365⟩ := sp_add ((8 : Int32) + ((3 : Int32) * 0)) (2 : Int32))
                exact gr (by omega) (by omega)
              refine ok_let (fun v509 ev509 => ?_)
              have : (8 : Int32).toInt = 8 := (by decide)
              have : (3 : Int32).toInt = 3 := (by decide)
              have : (0 : Int32).toInt = 0 := (by decide)
              (first | have := sp_mulcx (3 : Int32) (0 : Int32) 0 (by decide) (by omega) | obtain ⟨k366, hk366⟩ := sp_mulc (3 : Int32) (0 : Int32) 0 (by decide))
              (first | have := sp_addx (8 : Int32) ((3 : Int32) * 0) (by omega) | obtain ⟨k367, hk367⟩ := sp_add (8 : Int32) ((3 : Int32) * 0))
              have : (2 : Int32).toInt = 2 := (by decide)
              (first | have := sp_addx ((8 : Int32) + ((3 : Int32) * 0)) (2 : Int32) (by omega) | obtain ⟨k368, hk368⟩ := sp_add ((8 : Int32) + ((3 : Int32) * 0)) (2 : Int32))
              have : (97 : Int32).toInt = 97 := (by decide)
              have := i_bd r494
              (first | have := sp_subx r494 (97 : Int32) (by omega) | obtain ⟨k369, hk369⟩ := sp_sub r494 (97 : Int32))
              have hI_v509 : IM v509 := by
                rw [ev509]
                first | exact hI_v507.um7 (by omega) (by omega) | exact hI_v507.u07
              have := i_eq (show v509 30 0 8 = v507 30 0 8 by rw [ev509]; exact up3_t (by decide))
              have := i_eq (show v509 30 0 11 = v507 30 0 11 by rw [ev509]; exact up3_t (by decide))
              have := i_eq (show v509 30 0 12 = v507 30 0 12 by rw [ev509]; exact up3_t (by decide))
              (try have := i_eq (show v509 37 0 3 = v507 37 0 3 by rw [ev509]; exact up3_j (tcne (by omega) (by omega))))
              (try have := i_eq (show v509 37 0 4 = v507 37 0 4 by rw [ev509]; exact up3_j (tcne (by omega) (by omega))))
              have : ((v509 36 0 3).toInt = 0 ∧ (v509 36 0 4).toInt = 0) ∨ (0 < (v509 36 0 3).toInt ∧ 0 < (v509 36 0 4).toInt) := hI_v509.2.1
              refine ok_let (fun v510 ev510 => ?_)
              have hI_v510 : IM v510 := by
                rw [ev510]
                refine hI_v509.upo (by decide) ?_
                show (0 : Int) ≤ Int32.toInt ((v509 37 0 3) + 1) ∧ Int32.toInt ((v509 37 0 3) + 1) ≤ (6 : Int)
                have : (0 : Int) ≤ (v509 37 0 3).toInt ∧ (v509 37 0 3).toInt ≤ (6 : Int) := hI_v509.1 37 0 3
                have : (1 : Int32).toInt = 1 := (by decide)
                have := i_bd (v509 37 0 3)
                (first | have := sp_addx (v509 37 0 3) (1 : Int32) (by omega) | obtain ⟨k370, hk370⟩ := sp_add (v509 37 0 3) (1 : Int32))
                omega
              have := i_eq (show v510 30 0 8 = v509 30 0 8 by rw [ev510]; exact up3_t (by decide))
              have := i_eq (show v510 30 0 11 = v509 30 0 11 by rw [ev510]; exact up3_t (by decide))
              have := i_eq (show v510 30 0 12 = v509 30 0 12 by rw [ev510]; exact up3_t (by decide))
              have := i_eq (show v510 37 0 3 = ((v509 37 0 3) + 1) by rw [ev510]; exact up3_s)
              have : (0 : Int) ≤ (v509 37 0 3).toInt ∧ (v509 37 0 3).toInt ≤ (6 : Int) := hI_v509.1 37 0 3
              have : (1 : Int32).toInt = 1 := (by decide)
              have := i_bd (v509 37 0 3)
              (first | have := sp_addx (v509 37 0 3) (1 : Int32) (by omega) | obtain ⟨k371, hk371⟩ := sp_add (v509 37 0 3) (1 : Int32))
              have := i_eq (show v510 37 0 4 = v509 37 0 4 by rw [ev510]; exact up3_j (by decide))
              have : ((v510 36 0 3).toInt = 0 ∧ (v510 36 0 4).toInt = 0) ∨ (0 < (v510 36 0 3).toInt ∧ 0 < (v510 36 0 4).toInt) := hI_v510.2.1
              refine ok_some ?_
              show IM v510 ∧ (Int32.toInt (v510 37 0 4) = Int32.toInt (v 37 0 4)) ∧ ((Int32.toInt (v 30 0 8) < 0 ∧ Int32.toInt (v510 37 0 3) = Int32.toInt (v 37 0 3) + 1) ∨ 0 ≤ Int32.toInt (v510 30 0 8))
              refine ⟨hI_v510, ?_⟩
              omega
          · skip
            have ic496 := i_ne c496
            have : (0 : Int) ≤ (v495 30 0 11).toInt ∧ (v495 30 0 11).toInt ≤ (5 : Int) := hI_v495.1 30 0 11
            have : (4 : Int32).toInt = 4 := (by decide)
            refine ok_kb2 (k_X8_takes v495 hI_v495 0 1 ) (fun r512 v513 hr512 => ?_)
            have hr512 : IM v513 ∧ (Int32.toInt (v513 37 0 3) = Int32.toInt (v495 37 0 3)) ∧ (Int32.toInt (v513 37 0 4) = Int32.toInt (v495 37 0 4)) ∧ (Int32.toInt (v495 30 0 8) < 0 ∨ 0 ≤ Int32.toInt (v513 30 0 8)) ∧ (¬ Int32.toInt 0 = 0 ∨ 0 ≤ Int32.toInt (v513 30 0 8)) ∧ (Int32.toInt r512 = 0 ∨ (Int32.toInt r512 = Int32.toInt (v495 30 0 12) ∧ ¬ Int32.toInt 0 = 0)) := hr512
            obtain ⟨hI_v513, hr512⟩ := hr512
            have : ((v513 36 0 3).toInt = 0 ∧ (v513 36 0 4).toInt = 0) ∨ (0 < (v513 36 0 3).toInt ∧ 0 < (v513 36 0 4).toInt) := hI_v513.2.1
            have : (0 : Int) ≤ (v495 37 0 3).toInt ∧ (v495 37 0 3).toInt ≤ (6 : Int) := hI_v495.1 37 0 3
            have : (0 : Int) ≤ (v495 37 0 4).toInt ∧ (v495 37 0 4).toInt ≤ (4 : Int) := hI_v495.1 37 0 4
            have : (-1 : Int) ≤ (v495 30 0 8).toInt ∧ (v495 30 0 8).toInt ≤ (100 : Int) := hI_v495.1 30 0 8
            have : (0 : Int32).toInt = 0 := (by decide)
            have : (1 : Int32).toInt = 1 := (by decide)
            refine ok_bind (k_X8_isWell v513 hI_v513  ) (fun r515 hr515 => ?_)
            have hr515 : (0 : Int) ≤ Int32.toInt r515 ∧ Int32.toInt r515 ≤ (1 : Int) ∧ ((Int32.toInt r515 = 0 ∧ 0 ≤ Int32.toInt (v513 30 0 8)) ∨ (Int32.toInt r515 = 1 ∧ Int32.toInt (v513 30 0 8) < 0)) := hr515
            have : (-1 : Int) ≤ (v513 30 0 8).toInt ∧ (v513 30 0 8).toInt ≤ (100 : Int) := hI_v513.1 30 0 8
            refine ok_ite _ (fun c517 => ?_) (fun c517 => ?_)
            · skip
              have ic517 := i_eq c517
              have : (0 : Int32).toInt = 0 := (by decide)
              refine ok_some ?_
              show IM v513 ∧ (Int32.toInt (v513 37 0 4) = Int32.toInt (v 37 0 4)) ∧ ((Int32.toInt (v 30 0 8) < 0 ∧ Int32.toInt (v513 37 0 3) = Int32.toInt (v 37 0 3) + 1) ∨ 0 ≤ Int32.toInt (v513 30 0 8))
              refine ⟨hI_v513, ?_⟩
              omega
            · skip
              have ic517 := i_ne c517
              have : (0 : Int32).toInt = 0 := (by decide)
              refine ok_grd _ ?_ ?_
              · skip
                have : (8 : Int32).toInt = 8 := (by decide)
                have : (3 : Int32).toInt = 3 := (by decide)
                have : (0 : Int32).toInt = 0 := (by decide)
                (first | have := sp_mulcx (3 : Int32) (0 : Int32) 0 (by decide) (by omega) | obtain ⟨k372, hk372⟩ := sp_mulc (3 : Int32) (0 : Int32) 0 (by decide))
                (first | have := sp_addx (8 : Int32) ((3 : Int32) * 0) (by omega) | obtain ⟨k373, hk373⟩ := sp_add (8 : Int32) ((3 : Int32) * 0))
                exact gr (by omega) (by omega)
              refine ok_let (fun v519 ev519 => ?_)
              have : (8 : Int32).toInt = 8 := (by decide)
              have : (3 : Int32).toInt = 3 := (by decide)
              have : (0 : Int32).toInt = 0 := (by decide)
              (first | have := sp_mulcx (3 : Int32) (0 : Int32) 0 (by decide) (by omega) | obtain ⟨k374, hk374⟩ := sp_mulc (3 : Int32) (0 : Int32) 0 (by decide))
              (first | have := sp_addx (8 : Int32) ((3 : Int32) * 0) (by omega) | obtain ⟨k375, hk375⟩ := sp_add (8 : Int32) ((3 : Int32) * 0))
              have hI_v519 : IM v519 := by
                rw [ev519]
                first | exact hI_v513.um7 (by omega) (by omega) | exact hI_v513.u07
              have := i_eq (show v519 30 0 8 = v513 30 0 8 by rw [ev519]; exact up3_t (by decide))
              have := i_eq (show v519 30 0 11 = v513 30 0 11 by rw [ev519]; exact up3_t (by decide))
              have := i_eq (show v519 30 0 12 = v513 30 0 12 by rw [ev519]; exact up3_t (by decide))
              (try have := i_eq (show v519 37 0 3 = v513 37 0 3 by rw [ev519]; exact up3_j (tcne (by omega) (by omega))))
              (try have := i_eq (show v519 37 0 4 = v513 37 0 4 by rw [ev519]; exact up3_j (tcne (by omega) (by omega))))
              have : ((v519 36 0 3).toInt = 0 ∧ (v519 36 0 4).toInt = 0) ∨ (0 < (v519 36 0 3).toInt ∧ 0 < (v519 36 0 4).toInt) := hI_v519.2.1
              refine ok_grd _ ?_ ?_
              · skip
                have : (8 : Int32).toInt = 8 := (by decide)
                have : (3 : Int32).toInt = 3 := (by decide)
                have : (0 : Int32).toInt = 0 := (by decide)
                (first | have := sp_mulcx (3 : Int32) (0 : Int32) 0 (by decide) (by omega) | obtain ⟨k376, hk376⟩ := sp_mulc (3 : Int32) (0 : Int32) 0 (by decide))
                (first | have := sp_addx (8 : Int32) ((3 : Int32) * 0) (by omega) | obtain ⟨k377, hk377⟩ := sp_add (8 : Int32) ((3 : Int32) * 0))
                have : (1 : Int32).toInt = 1 := (by decide)
                (first | have := sp_addx ((8 : Int32) + ((3 : Int32) * 0)) (1 : Int32) (by omega) | obtain ⟨k378, hk378⟩ := sp_add ((8 : Int32) + ((3 : Int32) * 0)) (1 : Int32))
                exact gr (by omega) (by omega)
              refine ok_let (fun v521 ev521 => ?_)
              have : (8 : Int32).toInt = 8 := (by decide)
              have : (3 : Int32).toInt = 3 := (by decide)
              have : (0 : Int32).toInt = 0 := (by decide)
              (first | have := sp_mulcx (3 : Int32) (0 : Int32) 0 (by decide) (by omega) | obtain ⟨k379, hk379⟩ := sp_mulc (3 : Int32) (0 : Int32) 0 (by decide))
              (first | have := sp_addx (8 : Int32) ((3 : Int32) * 0) (by omega) | obtain ⟨k380, hk380⟩ := sp_add (8 : Int32) ((3 : Int32) * 0))
              have : (1 : Int32).toInt = 1 := (by decide)
              (first | have := sp_addx ((8 : Int32) + ((3 : Int32) * 0)) (1 : Int32) (by omega) | obtain ⟨k381, hk381⟩ := sp_add ((8 : Int32) + ((3 : Int32) * 0)) (1 : Int32))
              have hI_v521 : IM v521 := by
                rw [ev521]
                first | exact hI_v519.um7 (by omega) (by omega) | exact hI_v519.u07
              have := i_eq (show v521 30 0 8 = v519 30 0 8 by rw [ev521]; exact up3_t (by decide))
              have := i_eq (show v521 30 0 11 = v519 30 0 11 by rw [ev521]; exact up3_t (by decide))
              have := i_eq (show v521 30 0 12 = v519 30 0 12 by rw [ev521]; exact up3_t (by decide))
              (try have := i_eq (show v521 37 0 3 = v519 37 0 3 by rw [ev521]; exact up3_j (tcne (by omega) (by omega))))
              (try have := i_eq (show v521 37 0 4 = v519 37 0 4 by rw [ev521]; exact up3_j (tcne (by omega) (by omega))))
              have : ((v521 36 0 3).toInt = 0 ∧ (v521 36 0 4).toInt = 0) ∨ (0 < (v521 36 0 3).toInt ∧ 0 < (v521 36 0 4).toInt) := hI_v521.2.1
              refine ok_grd _ ?_ ?_
              · skip
                have : (8 : Int32).toInt = 8 := (by decide)
                have : (3 : Int32).toInt = 3 := (by decide)
                have : (0 : Int32).toInt = 0 := (by decide)
                (first | have := sp_mulcx (3 : Int32) (0 : Int32) 0 (by decide) (by omega) | obtain ⟨k382, hk382⟩ := sp_mulc (3 : Int32) (0 : Int32) 0 (by decide))
                (first | have := sp_addx (8 : Int32) ((3 : Int32) * 0) (by omega) | obtain ⟨k383, hk383⟩ := sp_add (8 : Int32) ((3 : Int32) * 0))
                have : (2 : Int32).toInt = 2 := (by decide)
                (first | have := sp_addx ((8 : Int32) + ((3 : Int32) * 0)) (2 : Int32) (by omega) | obtain ⟨k384, hk384⟩ := sp_add ((8 : Int32) + ((3 : Int32) * 0)) (2 : Int32))
                exact gr (by omega) (by omega)
              refine ok_let (fun v523 ev523 => ?_)
              have : (8 : Int32).toInt = 8 := (by decide)
              have : (3 : Int32).toInt = 3 := (by decide)
              have : (0 : Int32).toInt = 0 := (by decide)
              (first | have := sp_mulcx (3 : Int32) (0 : Int32) 0 (by decide) (by omega) | obtain ⟨k385, hk385⟩ := sp_mulc (3 : Int32) (0 : Int32) 0 (by decide))
              (first | have := sp_addx (8 : Int32) ((3 : Int32) * 0) (by omega) | obtain ⟨k386, hk386⟩ := sp_add (8 : Int32) ((3 : Int32) * 0))
              have : (2 : Int32).toInt = 2 := (by decide)
              (first | have := sp_addx ((8 : Int32) + ((3 : Int32) * 0)) (2 : Int32) (by omega) | obtain ⟨k387, hk387⟩ := sp_add ((8 : Int32) + ((3 : Int32) * 0)) (2 : Int32))
              have : (97 : Int32).toInt = 97 := (by decide)
              have := i_bd r494
              (first | have := sp_subx r494 (97 : Int32) (by omega) | obtain ⟨k388, hk388⟩ := sp_sub r494 (97 : Int32))
              have hI_v523 : IM v523 := by
                rw [ev523]
                first | exact hI_v521.um7 (by omega) (by omega) | exact hI_v521.u07
              have := i_eq (show v523 30 0 8 = v521 30 0 8 by rw [ev523]; exact up3_t (by decide))
              have := i_eq (show v523 30 0 11 = v521 30 0 11 by rw [ev523]; exact up3_t (by decide))
              have := i_eq (show v523 30 0 12 = v521 30 0 12 by rw [ev523]; exact up3_t (by decide))
              (try have := i_eq (show v523 37 0 3 = v521 37 0 3 by rw [ev523]; exact up3_j (tcne (by omega) (by omega))))
              (try have := i_eq (show v523 37 0 4 = v521 37 0 4 by rw [ev523]; exact up3_j (tcne (by omega) (by omega))))
              have : ((v523 36 0 3).toInt = 0 ∧ (v523 36 0 4).toInt = 0) ∨ (0 < (v523 36 0 3).toInt ∧ 0 < (v523 36 0 4).toInt) := hI_v523.2.1
              refine ok_let (fun v524 ev524 => ?_)
              have hI_v524 : IM v524 := by
                rw [ev524]
                refine hI_v523.upo (by decide) ?_
                show (0 : Int) ≤ Int32.toInt ((v523 37 0 3) + 1) ∧ Int32.toInt ((v523 37 0 3) + 1) ≤ (6 : Int)
                have : (0 : Int) ≤ (v523 37 0 3).toInt ∧ (v523 37 0 3).toInt ≤ (6 : Int) := hI_v523.1 37 0 3
                have : (1 : Int32).toInt = 1 := (by decide)
                have := i_bd (v523 37 0 3)
                (first | have := sp_addx (v523 37 0 3) (1 : Int32) (by omega) | obtain ⟨k389, hk389⟩ := sp_add (v523 37 0 3) (1 : Int32))
                omega
              have := i_eq (show v524 30 0 8 = v523 30 0 8 by rw [ev524]; exact up3_t (by decide))
              have := i_eq (show v524 30 0 11 = v523 30 0 11 by rw [ev524]; exact up3_t (by decide))
              have := i_eq (show v524 30 0 12 = v523 30 0 12 by rw [ev524]; exact up3_t (by decide))
              have := i_eq (show v524 37 0 3 = ((v523 37 0 3) + 1) by rw [ev524]; exact up3_s)
              have : (0 : Int) ≤ (v523 37 0 3).toInt ∧ (v523 37 0 3).toInt ≤ (6 : Int) := hI_v523.1 37 0 3
              have : (1 : Int32).toInt = 1 := (by decide)
              have := i_bd (v523 37 0 3)
              (first | have := sp_addx (v523 37 0 3) (1 : Int32) (by omega) | obtain ⟨k390, hk390⟩ := sp_add (v523 37 0 3) (1 : Int32))
              have := i_eq (show v524 37 0 4 = v523 37 0 4 by rw [ev524]; exact up3_j (by decide))
              have : ((v524 36 0 3).toInt = 0 ∧ (v524 36 0 4).toInt = 0) ∨ (0 < (v524 36 0 3).toInt ∧ 0 < (v524 36 0 4).toInt) := hI_v524.2.1
              refine ok_some ?_
              show IM v524 ∧ (Int32.toInt (v524 37 0 4) = Int32.toInt (v 37 0 4)) ∧ ((Int32.toInt (v 30 0 8) < 0 ∧ Int32.toInt (v524 37 0 3) = Int32.toInt (v 37 0 3) + 1) ∨ 0 ≤ Int32.toInt (v524 30 0 8))
              refine ⟨hI_v524, ?_⟩
              omega
      · skip
        have ic456 := i_ne c456
        have : (0 : Int32).toInt = 0 := (by decide)
        refine ok_ite _ (fun c525 => ?_) (fun c525 => ?_)
        · skip
          have ic525 := i_eq c525
          have : (0 : Int) ≤ (v452 30 0 11).toInt ∧ (v452 30 0 11).toInt ≤ (5 : Int) := hI_v452.1 30 0 11
          have : (1 : Int32).toInt = 1 := (by decide)
          refine ok_bind (k_X8_isTold v452 hI_v452 r448 r451 ((v452 30 0 12) - 97) ) (fun r527 hr527 => ?_)
          have hr527 : (0 : Int) ≤ Int32.toInt r527 ∧ Int32.toInt r527 ≤ (1 : Int) := hr527
          refine ok_ite _ (fun c529 => ?_) (fun c529 => ?_)
          · skip
            have ic529 := i_eq c529
            have : (0 : Int32).toInt = 0 := (by decide)
            refine ok_kb2 (k_X8_takes v452 hI_v452 1 2 ) (fun r531 v532 hr531 => ?_)
            have hr531 : IM v532 ∧ (Int32.toInt (v532 37 0 3) = Int32.toInt (v452 37 0 3)) ∧ (Int32.toInt (v532 37 0 4) = Int32.toInt (v452 37 0 4)) ∧ (Int32.toInt (v452 30 0 8) < 0 ∨ 0 ≤ Int32.toInt (v532 30 0 8)) ∧ (¬ Int32.toInt 1 = 0 ∨ 0 ≤ Int32.toInt (v532 30 0 8)) ∧ (Int32.toInt r531 = 0 ∨ (Int32.toInt r531 = Int32.toInt (v452 30 0 12) ∧ ¬ Int32.toInt 1 = 0)) := hr531
            obtain ⟨hI_v532, hr531⟩ := hr531
            have : ((v532 36 0 3).toInt = 0 ∧ (v532 36 0 4).toInt = 0) ∨ (0 < (v532 36 0 3).toInt ∧ 0 < (v532 36 0 4).toInt) := hI_v532.2.1
            have : (0 : Int) ≤ (v452 37 0 3).toInt ∧ (v452 37 0 3).toInt ≤ (6 : Int) := hI_v452.1 37 0 3
            have : (0 : Int) ≤ (v452 37 0 4).toInt ∧ (v452 37 0 4).toInt ≤ (4 : Int) := hI_v452.1 37 0 4
            have : (-1 : Int) ≤ (v452 30 0 8).toInt ∧ (v452 30 0 8).toInt ≤ (100 : Int) := hI_v452.1 30 0 8
            have : (1 : Int32).toInt = 1 := (by decide)
            have : (2 : Int32).toInt = 2 := (by decide)
            refine ok_ite _ (fun c533 => ?_) (fun c533 => ?_)
            · skip
              have ic533 := i_eq c533
              have : (0 : Int) ≤ (v532 30 0 11).toInt ∧ (v532 30 0 11).toInt ≤ (5 : Int) := hI_v532.1 30 0 11
              have : (4 : Int32).toInt = 4 := (by decide)
              refine ok_kb2 (k_X8_takes v532 hI_v532 1 1 ) (fun r535 v536 hr535 => ?_)
              have hr535 : IM v536 ∧ (Int32.toInt (v536 37 0 3) = Int32.toInt (v532 37 0 3)) ∧ (Int32.toInt (v536 37 0 4) = Int32.toInt (v532 37 0 4)) ∧ (Int32.toInt (v532 30 0 8) < 0 ∨ 0 ≤ Int32.toInt (v536 30 0 8)) ∧ (¬ Int32.toInt 1 = 0 ∨ 0 ≤ Int32.toInt (v536 30 0 8)) ∧ (Int32.toInt r535 = 0 ∨ (Int32.toInt r535 = Int32.toInt (v532 30 0 12) ∧ ¬ Int32.toInt 1 = 0)) := hr535
              obtain ⟨hI_v536, hr535⟩ := hr535
              have : ((v536 36 0 3).toInt = 0 ∧ (v536 36 0 4).toInt = 0) ∨ (0 < (v536 36 0 3).toInt ∧ 0 < (v536 36 0 4).toInt) := hI_v536.2.1
              have : (0 : Int) ≤ (v532 37 0 3).toInt ∧ (v532 37 0 3).toInt ≤ (6 : Int) := hI_v532.1 37 0 3
              have : (0 : Int) ≤ (v532 37 0 4).toInt ∧ (v532 37 0 4).toInt ≤ (4 : Int) := hI_v532.1 37 0 4
              have : (-1 : Int) ≤ (v532 30 0 8).toInt ∧ (v532 30 0 8).toInt ≤ (100 : Int) := hI_v532.1 30 0 8
              have : (1 : Int32).toInt = 1 := (by decide)
              refine ok_bind (k_X8_isWell v536 hI_v536  ) (fun r538 hr538 => ?_)
              have hr538 : (0 : Int) ≤ Int32.toInt r538 ∧ Int32.toInt r538 ≤ (1 : Int) ∧ ((Int32.toInt r538 = 0 ∧ 0 ≤ Int32.toInt (v536 30 0 8)) ∨ (Int32.toInt r538 = 1 ∧ Int32.toInt (v536 30 0 8) < 0)) := hr538
              have : (-1 : Int) ≤ (v536 30 0 8).toInt ∧ (v536 30 0 8).toInt ≤ (100 : Int) := hI_v536.1 30 0 8
              refine ok_ite _ (fun c540 => ?_) (fun c540 => ?_)
              · skip
                have ic540 := i_eq c540
                have : (0 : Int32).toInt = 0 := (by decide)
                refine ok_some ?_
                show IM v536 ∧ (Int32.toInt (v536 37 0 4) = Int32.toInt (v 37 0 4)) ∧ ((Int32.toInt (v 30 0 8) < 0 ∧ Int32.toInt (v536 37 0 3) = Int32.toInt (v 37 0 3) + 1) ∨ 0 ≤ Int32.toInt (v536 30 0 8))
                refine ⟨hI_v536, ?_⟩
                omega
              · skip
                have ic540 := i_ne c540
                have : (0 : Int32).toInt = 0 := (by decide)
                refine ok_grd _ ?_ ?_
                · skip
                  have : (8 : Int32).toInt = 8 := (by decide)
                  have : (3 : Int32).toInt = 3 := (by decide)
                  have : (0 : Int32).toInt = 0 := (by decide)
                  (first | have := sp_mulcx (3 : Int32) (0 : Int32) 0 (by decide) (by omega) | obtain ⟨k391, hk391⟩ := sp_mulc (3 : Int32) (0 : Int32) 0 (by decide))
                  (first | have := sp_addx (8 : Int32) ((3 : Int32) * 0) (by omega) | obtain ⟨k392, hk392⟩ := sp_add (8 : Int32) ((3 : Int32) * 0))
                  exact gr (by omega) (by omega)
                refine ok_let (fun v542 ev542 => ?_)
                have : (8 : Int32).toInt = 8 := (by decide)
                have : (3 : Int32).toInt = 3 := (by decide)
                have : (0 : Int32).toInt = 0 := (by decide)
                (first | have := sp_mulcx (3 : Int32) (0 : Int32) 0 (by decide) (by omega) | obtain ⟨k393, hk393⟩ := sp_mulc (3 : Int32) (0 : Int32) 0 (by decide))
                (first | have := sp_addx (8 : Int32) ((3 : Int32) * 0) (by omega) | obtain ⟨k394, hk394⟩ := sp_add (8 : Int32) ((3 : Int32) * 0))
                have hI_v542 : IM v542 := by
                  rw [ev542]
                  first | exact hI_v536.um7 (by omega) (by omega) | exact hI_v536.u07
                have := i_eq (show v542 30 0 8 = v536 30 0 8 by rw [ev542]; exact up3_t (by decide))
                have := i_eq (show v542 30 0 11 = v536 30 0 11 by rw [ev542]; exact up3_t (by decide))
                have := i_eq (show v542 30 0 12 = v536 30 0 12 by rw [ev542]; exact up3_t (by decide))
                (try have := i_eq (show v542 37 0 3 = v536 37 0 3 by rw [ev542]; exact up3_j (tcne (by omega) (by omega))))
                (try have := i_eq (show v542 37 0 4 = v536 37 0 4 by rw [ev542]; exact up3_j (tcne (by omega) (by omega))))
                have : ((v542 36 0 3).toInt = 0 ∧ (v542 36 0 4).toInt = 0) ∨ (0 < (v542 36 0 3).toInt ∧ 0 < (v542 36 0 4).toInt) := hI_v542.2.1
                refine ok_grd _ ?_ ?_
                · skip
                  have : (8 : Int32).toInt = 8 := (by decide)
                  have : (3 : Int32).toInt = 3 := (by decide)
                  have : (0 : Int32).toInt = 0 := (by decide)
                  (first | have := sp_mulcx (3 : Int32) (0 : Int32) 0 (by decide) (by omega) | obtain ⟨k395, hk395⟩ := sp_mulc (3 : Int32) (0 : Int32) 0 (by decide))
                  (first | have := sp_addx (8 : Int32) ((3 : Int32) * 0) (by omega) | obtain ⟨k396, hk396⟩ := sp_add (8 : Int32) ((3 : Int32) * 0))
                  have : (1 : Int32).toInt = 1 := (by decide)
                  (first | have := sp_addx ((8 : Int32) + ((3 : Int32) * 0)) (1 : Int32) (by omega) | obtain ⟨k397, hk397⟩ := sp_add ((8 : Int32) + ((3 : Int32) * 0)) (1 : Int32))
                  exact gr (by omega) (by omega)
                refine ok_let (fun v544 ev544 => ?_)
                have : (8 : Int32).toInt = 8 := (by decide)
                have : (3 : Int32).toInt = 3 := (by decide)
                have : (0 : Int32).toInt = 0 := (by decide)
                (first | have := sp_mulcx (3 : Int32) (0 : Int32) 0 (by decide) (by omega) | obtain ⟨k398, hk398⟩ := sp_mulc (3 : Int32) (0 : Int32) 0 (by decide))
                (first | have := sp_addx (8 : Int32) ((3 : Int32) * 0) (by omega) | obtain ⟨k399, hk399⟩ := sp_add (8 : Int32) ((3 : Int32) * 0))
                have : (1 : Int32).toInt = 1 := (by decide)
                (first | have := sp_addx ((8 : Int32) + ((3 : Int32) * 0)) (1 : Int32) (by omega) | obtain ⟨k400, hk400⟩ := sp_add ((8 : Int32) + ((3 : Int32) * 0)) (1 : Int32))
                have hI_v544 : IM v544 := by
                  rw [ev544]
                  first | exact hI_v542.um7 (by omega) (by omega) | exact hI_v542.u07
                have := i_eq (show v544 30 0 8 = v542 30 0 8 by rw [ev544]; exact up3_t (by decide))
                have := i_eq (show v544 30 0 11 = v542 30 0 11 by rw [ev544]; exact up3_t (by decide))
                have := i_eq (show v544 30 0 12 = v542 30 0 12 by rw [ev544]; exact up3_t (by decide))
                (try have := i_eq (show v544 37 0 3 = v542 37 0 3 by rw [ev544]; exact up3_j (tcne (by omega) (by omega))))
                (try have := i_eq (show v544 37 0 4 = v542 37 0 4 by rw [ev544]; exact up3_j (tcne (by omega) (by omega))))
                have : ((v544 36 0 3).toInt = 0 ∧ (v544 36 0 4).toInt = 0) ∨ (0 < (v544 36 0 3).toInt ∧ 0 < (v544 36 0 4).toInt) := hI_v544.2.1
                refine ok_grd _ ?_ ?_
                · skip
                  have : (8 : Int32).toInt = 8 := (by decide)
                  have : (3 : Int32).toInt = 3 := (by decide)
                  have : (0 : Int32).toInt = 0 := (by decide)
                  (first | have := sp_mulcx (3 : Int32) (0 : Int32) 0 (by decide) (by omega) | obtain ⟨k401, hk401⟩ := sp_mulc (3 : Int32) (0 : Int32) 0 (by decide))
                  (first | have := sp_addx (8 : Int32) ((3 : Int32) * 0) (by omega) | obtain ⟨k402, hk402⟩ := sp_add (8 : Int32) ((3 : Int32) * 0))
                  have : (2 : Int32).toInt = 2 := (by decide)
                  (first | have := sp_addx ((8 : Int32) + ((3 : Int32) * 0)) (2 : Int32) (by omega) | obtain ⟨k403, hk403⟩ := sp_add ((8 : Int32) + ((3 : Int32) * 0)) (2 : Int32))
                  exact gr (by omega) (by omega)
                refine ok_let (fun v546 ev546 => ?_)
                have : (8 : Int32).toInt = 8 := (by decide)
                have : (3 : Int32).toInt = 3 := (by decide)
                have : (0 : Int32).toInt = 0 := (by decide)
                (first | have := sp_mulcx (3 : Int32) (0 : Int32) 0 (by decide) (by omega) | obtain ⟨k404, hk404⟩ := sp_mulc (3 : Int32) (0 : Int32) 0 (by decide))
                (first | have := sp_addx (8 : Int32) ((3 : Int32) * 0) (by omega) | obtain ⟨k405, hk405⟩ := sp_add (8 : Int32) ((3 : Int32) * 0))
                have : (2 : Int32).toInt = 2 := (by decide)
                (first | have := sp_addx ((8 : Int32) + ((3 : Int32) * 0)) (2 : Int32) (by omega) | obtain ⟨k406, hk406⟩ := sp_add ((8 : Int32) + ((3 : Int32) * 0)) (2 : Int32))
                have : (97 : Int32).toInt = 97 := (by decide)
                have := i_bd r531
                (first | have := sp_subx r531 (97 : Int32) (by omega) | obtain ⟨k407, hk407⟩ := sp_sub r531 (97 : Int32))
                have hI_v546 : IM v546 := by
                  rw [ev546]
                  first | exact hI_v544.um7 (by omega) (by omega) | exact hI_v544.u07
                have := i_eq (show v546 30 0 8 = v544 30 0 8 by rw [ev546]; exact up3_t (by decide))
                have := i_eq (show v546 30 0 11 = v544 30 0 11 by rw [ev546]; exact up3_t (by decide))
                have := i_eq (show v546 30 0 12 = v544 30 0 12 by rw [ev546]; exact up3_t (by decide))
                (try have := i_eq (show v546 37 0 3 = v544 37 0 3 by rw [ev546]; exact up3_j (tcne (by omega) (by omega))))
                (try have := i_eq (show v546 37 0 4 = v544 37 0 4 by rw [ev546]; exact up3_j (tcne (by omega) (by omega))))
                have : ((v546 36 0 3).toInt = 0 ∧ (v546 36 0 4).toInt = 0) ∨ (0 < (v546 36 0 3).toInt ∧ 0 < (v546 36 0 4).toInt) := hI_v546.2.1
                refine ok_let (fun v547 ev547 => ?_)
                have hI_v547 : IM v547 := by
                  rw [ev547]
                  refine hI_v546.upo (by decide) ?_
                  show (0 : Int) ≤ Int32.toInt ((v546 37 0 3) + 1) ∧ Int32.toInt ((v546 37 0 3) + 1) ≤ (6 : Int)
                  have : (0 : Int) ≤ (v546 37 0 3).toInt ∧ (v546 37 0 3).toInt ≤ (6 : Int) := hI_v546.1 37 0 3
                  have : (1 : Int32).toInt = 1 := (by decide)
                  have := i_bd (v546 37 0 3)
                  (first | have := sp_addx (v546 37 0 3) (1 : Int32) (by omega) | obtain ⟨k408, hk408⟩ := sp_add (v546 37 0 3) (1 : Int32))
                  omega
                have := i_eq (show v547 30 0 8 = v546 30 0 8 by rw [ev547]; exact up3_t (by decide))
                have := i_eq (show v547 30 0 11 = v546 30 0 11 by rw [ev547]; exact up3_t (by decide))
                have := i_eq (show v547 30 0 12 = v546 30 0 12 by rw [ev547]; exact up3_t (by decide))
                have := i_eq (show v547 37 0 3 = ((v546 37 0 3) + 1) by rw [ev547]; exact up3_s)
                have : (0 : Int) ≤ (v546 37 0 3).toInt ∧ (v546 37 0 3).toInt ≤ (6 : Int) := hI_v546.1 37 0 3
                have : (1 : Int32).toInt = 1 := (by decide)
                have := i_bd (v546 37 0 3)
                (first | have := sp_addx (v546 37 0 3) (1 : Int32) (by omega) | obtain ⟨k409, hk409⟩ := sp_add (v546 37 0 3) (1 : Int32))
                have := i_eq (show v547 37 0 4 = v546 37 0 4 by rw [ev547]; exact up3_j (by decide))
                have : ((v547 36 0 3).toInt = 0 ∧ (v547 36 0 4).toInt = 0) ∨ (0 < (v547 36 0 3).toInt ∧ 0 < (v547 36 0 4).toInt) := hI_v547.2.1
                refine ok_some ?_
                show IM v547 ∧ (Int32.toInt (v547 37 0 4) = Int32.toInt (v 37 0 4)) ∧ ((Int32.toInt (v 30 0 8) < 0 ∧ Int32.toInt (v547 37 0 3) = Int32.toInt (v 37 0 3) + 1) ∨ 0 ≤ Int32.toInt (v547 30 0 8))
                refine ⟨hI_v547, ?_⟩
                omega
            · skip
              have ic533 := i_ne c533
              have : (0 : Int) ≤ (v532 30 0 11).toInt ∧ (v532 30 0 11).toInt ≤ (5 : Int) := hI_v532.1 30 0 11
              have : (4 : Int32).toInt = 4 := (by decide)
              refine ok_kb2 (k_X8_takes v532 hI_v532 0 1 ) (fun r549 v550 hr549 => ?_)
              have hr549 : IM v550 ∧ (Int32.toInt (v550 37 0 3) = Int32.toInt (v532 37 0 3)) ∧ (Int32.toInt (v550 37 0 4) = Int32.toInt (v532 37 0 4)) ∧ (Int32.toInt (v532 30 0 8) < 0 ∨ 0 ≤ Int32.toInt (v550 30 0 8)) ∧ (¬ Int32.toInt 0 = 0 ∨ 0 ≤ Int32.toInt (v550 30 0 8)) ∧ (Int32.toInt r549 = 0 ∨ (Int32.toInt r549 = Int32.toInt (v532 30 0 12) ∧ ¬ Int32.toInt 0 = 0)) := hr549
              obtain ⟨hI_v550, hr549⟩ := hr549
              have : ((v550 36 0 3).toInt = 0 ∧ (v550 36 0 4).toInt = 0) ∨ (0 < (v550 36 0 3).toInt ∧ 0 < (v550 36 0 4).toInt) := hI_v550.2.1
              have : (0 : Int) ≤ (v532 37 0 3).toInt ∧ (v532 37 0 3).toInt ≤ (6 : Int) := hI_v532.1 37 0 3
              have : (0 : Int) ≤ (v532 37 0 4).toInt ∧ (v532 37 0 4).toInt ≤ (4 : Int) := hI_v532.1 37 0 4
              have : (-1 : Int) ≤ (v532 30 0 8).toInt ∧ (v532 30 0 8).toInt ≤ (100 : Int) := hI_v532.1 30 0 8
              have : (0 : Int32).toInt = 0 := (by decide)
              have : (1 : Int32).toInt = 1 := (by decide)
              refine ok_bind (k_X8_isWell v550 hI_v550  ) (fun r552 hr552 => ?_)
              have hr552 : (0 : Int) ≤ Int32.toInt r552 ∧ Int32.toInt r552 ≤ (1 : Int) ∧ ((Int32.toInt r552 = 0 ∧ 0 ≤ Int32.toInt (v550 30 0 8)) ∨ (Int32.toInt r552 = 1 ∧ Int32.toInt (v550 30 0 8) < 0)) := hr552
              have : (-1 : Int) ≤ (v550 30 0 8).toInt ∧ (v550 30 0 8).toInt ≤ (100 : Int) := hI_v550.1 30 0 8
              refine ok_ite _ (fun c554 => ?_) (fun c554 => ?_)
              · skip
                have ic554 := i_eq c554
                have : (0 : Int32).toInt = 0 := (by decide)
                refine ok_some ?_
                show IM v550 ∧ (Int32.toInt (v550 37 0 4) = Int32.toInt (v 37 0 4)) ∧ ((Int32.toInt (v 30 0 8) < 0 ∧ Int32.toInt (v550 37 0 3) = Int32.toInt (v 37 0 3) + 1) ∨ 0 ≤ Int32.toInt (v550 30 0 8))
                refine ⟨hI_v550, ?_⟩
                omega
              · skip
                have ic554 := i_ne c554
                have : (0 : Int32).toInt = 0 := (by decide)
                refine ok_grd _ ?_ ?_
                · skip
                  have : (8 : Int32).toInt = 8 := (by decide)
                  have : (3 : Int32).toInt = 3 := (by decide)
                  have : (0 : Int32).toInt = 0 := (by decide)
                  (first | have := sp_mulcx (3 : Int32) (0 : Int32) 0 (by decide) (by omega) | obtain ⟨k410, hk410⟩ := sp_mulc (3 : Int32) (0 : Int32) 0 (by decide))
                  (first | have := sp_addx (8 : Int32) ((3 : Int32) * 0) (by omega) | obtain ⟨k411, hk411⟩ := sp_add (8 : Int32) ((3 : Int32) * 0))
                  exact gr (by omega) (by omega)
                refine ok_let (fun v556 ev556 => ?_)
                have : (8 : Int32).toInt = 8 := (by decide)
                have : (3 : Int32).toInt = 3 := (by decide)
                have : (0 : Int32).toInt = 0 := (by decide)
                (first | have := sp_mulcx (3 : Int32) (0 : Int32) 0 (by decide) (by omega) | obtain ⟨k412, hk412⟩ := sp_mulc (3 : Int32) (0 : Int32) 0 (by decide))
                (first | have := sp_addx (8 : Int32) ((3 : Int32) * 0) (by omega) | obtain ⟨k413, hk413⟩ := sp_add (8 : Int32) ((3 : Int32) * 0))
                have hI_v556 : IM v556 := by
                  rw [ev556]
                  first | exact hI_v550.um7 (by omega) (by omega) | exact hI_v550.u07
                have := i_eq (show v556 30 0 8 = v550 30 0 8 by rw [ev556]; exact up3_t (by decide))
                have := i_eq (show v556 30 0 11 = v550 30 0 11 by rw [ev556]; exact up3_t (by decide))
                have := i_eq (show v556 30 0 12 = v550 30 0 12 by rw [ev556]; exact up3_t (by decide))
                (try have := i_eq (show v556 37 0 3 = v550 37 0 3 by rw [ev556]; exact up3_j (tcne (by omega) (by omega))))
                (try have := i_eq (show v556 37 0 4 = v550 37 0 4 by rw [ev556]; exact up3_j (tcne (by omega) (by omega))))
                have : ((v556 36 0 3).toInt = 0 ∧ (v556 36 0 4).toInt = 0) ∨ (0 < (v556 36 0 3).toInt ∧ 0 < (v556 36 0 4).toInt) := hI_v556.2.1
                refine ok_grd _ ?_ ?_
                · skip
                  have : (8 : Int32).toInt = 8 := (by decide)
                  have : (3 : Int32).toInt = 3 := (by decide)
                  have : (0 : Int32).toInt = 0 := (by decide)
                  (first | have := sp_mulcx (3 : Int32) (0 : Int32) 0 (by decide) (by omega) | obtain ⟨k414, hk414⟩ := sp_mulc (3 : Int32) (0 : Int32) 0 (by decide))
                  (first | have := sp_addx (8 : Int32) ((3 : Int32) * 0) (by omega) | obtain ⟨k415, hk415⟩ := sp_add (8 : Int32) ((3 : Int32) * 0))
                  have : (1 : Int32).toInt = 1 := (by decide)
                  (first | have := sp_addx ((8 : Int32) + ((3 : Int32) * 0)) (1 : Int32) (by omega) | obtain ⟨k416, hk416⟩ := sp_add ((8 : Int32) + ((3 : Int32) * 0)) (1 : Int32))
                  exact gr (by omega) (by omega)
                refine ok_let (fun v558 ev558 => ?_)
                have : (8 : Int32).toInt = 8 := (by decide)
                have : (3 : Int32).toInt = 3 := (by decide)
                have : (0 : Int32).toInt = 0 := (by decide)
                (first | have := sp_mulcx (3 : Int32) (0 : Int32) 0 (by decide) (by omega) | obtain ⟨k417, hk417⟩ := sp_mulc (3 : Int32) (0 : Int32) 0 (by decide))
                (first | have := sp_addx (8 : Int32) ((3 : Int32) * 0) (by omega) | obtain ⟨k418, hk418⟩ := sp_add (8 : Int32) ((3 : Int32) * 0))
                have : (1 : Int32).toInt = 1 := (by decide)
                (first | have := sp_addx ((8 : Int32) + ((3 : Int32) * 0)) (1 : Int32) (by omega) | obtain ⟨k419, hk419⟩ := sp_add ((8 : Int32) + ((3 : Int32) * 0)) (1 : Int32))
                have hI_v558 : IM v558 := by
                  rw [ev558]
                  first | exact hI_v556.um7 (by omega) (by omega) | exact hI_v556.u07
                have := i_eq (show v558 30 0 8 = v556 30 0 8 by rw [ev558]; exact up3_t (by decide))
                have := i_eq (show v558 30 0 11 = v556 30 0 11 by rw [ev558]; exact up3_t (by decide))
                have := i_eq (show v558 30 0 12 = v556 30 0 12 by rw [ev558]; exact up3_t (by decide))
                (try have := i_eq (show v558 37 0 3 = v556 37 0 3 by rw [ev558]; exact up3_j (tcne (by omega) (by omega))))
                (try have := i_eq (show v558 37 0 4 = v556 37 0 4 by rw [ev558]; exact up3_j (tcne (by omega) (by omega))))
                have : ((v558 36 0 3).toInt = 0 ∧ (v558 36 0 4).toInt = 0) ∨ (0 < (v558 36 0 3).toInt ∧ 0 < (v558 36 0 4).toInt) := hI_v558.2.1
                refine ok_grd _ ?_ ?_
                · skip
                  have : (8 : Int32).toInt = 8 := (by decide)
                  have : (3 : Int32).toInt = 3 := (by decide)
                  have : (0 : Int32).toInt = 0 := (by decide)
                  (first | have := sp_mulcx (3 : Int32) (0 : Int32) 0 (by decide) (by omega) | obtain ⟨k420, hk420⟩ := sp_mulc (3 : Int32) (0 : Int32) 0 (by decide))
                  (first | have := sp_addx (8 : Int32) ((3 : Int32) * 0) (by omega) | obtain ⟨k421, hk421⟩ := sp_add (8 : Int32) ((3 : Int32) * 0))
                  have : (2 : Int32).toInt = 2 := (by decide)
                  (first | have := sp_addx ((8 : Int32) + ((3 : Int32) * 0)) (2 : Int32) (by omega) | obtain ⟨k422, hk422⟩ := sp_add ((8 : Int32) + ((3 : Int32) * 0)) (2 : Int32))
                  exact gr (by omega) (by omega)
                refine ok_let (fun v560 ev560 => ?_)
                have : (8 : Int32).toInt = 8 := (by decide)
                have : (3 : Int32).toInt = 3 := (by decide)
                have : (0 : Int32).toInt = 0 := (by decide)
                (first | have := sp_mulcx (3 : Int32) (0 : Int32) 0 (by decide) (by omega) | obtain ⟨k423, hk423⟩ := sp_mulc (3 : Int32) (0 : Int32) 0 (by decide))
                (first | have := sp_addx (8 : Int32) ((3 : Int32) * 0) (by omega) | obtain ⟨k424, hk424⟩ := sp_add (8 : Int32) ((3 : Int32) * 0))
                have : (2 : Int32).toInt = 2 := (by decide)
                (first | have := sp_addx ((8 : Int32) + ((3 : Int32) * 0)) (2 : Int32) (by omega) | obtain ⟨k425, hk425⟩ := sp_add ((8 : Int32) + ((3 : Int32) * 0)) (2 : Int32))
                have : (97 : Int32).toInt = 97 := (by decide)
                have := i_bd r531
                (first | have := sp_subx r531 (97 : Int32) (by omega) | obtain ⟨k426, hk426⟩ := sp_sub r531 (97 : Int32))
                have hI_v560 : IM v560 := by
                  rw [ev560]
                  first | exact hI_v558.um7 (by omega) (by omega) | exact hI_v558.u07
                have := i_eq (show v560 30 0 8 = v558 30 0 8 by rw [ev560]; exact up3_t (by decide))
                have := i_eq (show v560 30 0 11 = v558 30 0 11 by rw [ev560]; exact up3_t (by decide))
                have := i_eq (show v560 30 0 12 = v558 30 0 12 by rw [ev560]; exact up3_t (by decide))
                (try have := i_eq (show v560 37 0 3 = v558 37 0 3 by rw [ev560]; exact up3_j (tcne (by omega) (by omega))))
                (try have := i_eq (show v560 37 0 4 = v558 37 0 4 by rw [ev560]; exact up3_j (tcne (by omega) (by omega))))
                have : ((v560 36 0 3).toInt = 0 ∧ (v560 36 0 4).toInt = 0) ∨ (0 < (v560 36 0 3).toInt ∧ 0 < (v560 36 0 4).toInt) := hI_v560.2.1
                refine ok_let (fun v561 ev561 => ?_)
                have hI_v561 : IM v561 := by
                  rw [ev561]
                  refine hI_v560.upo (by decide) ?_
                  show (0 : Int) ≤ Int32.toInt ((v560 37 0 3) + 1) ∧ Int32.toInt ((v560 37 0 3) + 1) ≤ (6 : Int)
                  have : (0 : Int) ≤ (v560 37 0 3).toInt ∧ (v560 37 0 3).toInt ≤ (6 : Int) := hI_v560.1 37 0 3
                  have : (1 : Int32).toInt = 1 := (by decide)
                  have := i_bd (v560 37 0 3)
                  (first | have := sp_addx (v560 37 0 3) (1 : Int32) (by omega) | obtain ⟨k427, hk427⟩ := sp_add (v560 37 0 3) (1 : Int32))
                  omega
                have := i_eq (show v561 30 0 8 = v560 30 0 8 by rw [ev561]; exact up3_t (by decide))
                have := i_eq (show v561 30 0 11 = v560 30 0 11 by rw [ev561]; exact up3_t (by decide))
                have := i_eq (show v561 30 0 12 = v560 30 0 12 by rw [ev561]; exact up3_t (by decide))
                have := i_eq (show v561 37 0 3 = ((v560 37 0 3) + 1) by rw [ev561]; exact up3_s)
                have : (0 : Int) ≤ (v560 37 0 3).toInt ∧ (v560 37 0 3).toInt ≤ (6 : Int) := hI_v560.1 37 0 3
                have : (1 : Int32).toInt = 1 := (by decide)
                have := i_bd (v560 37 0 3)
                (first | have := sp_addx (v560 37 0 3) (1 : Int32) (by omega) | obtain ⟨k428, hk428⟩ := sp_add (v560 37 0 3) (1 : Int32))
                have := i_eq (show v561 37 0 4 = v560 37 0 4 by rw [ev561]; exact up3_j (by decide))
                have : ((v561 36 0 3).toInt = 0 ∧ (v561 36 0 4).toInt = 0) ∨ (0 < (v561 36 0 3).toInt ∧ 0 < (v561 36 0 4).toInt) := hI_v561.2.1
                refine ok_some ?_
                show IM v561 ∧ (Int32.toInt (v561 37 0 4) = Int32.toInt (v 37 0 4)) ∧ ((Int32.toInt (v 30 0 8) < 0 ∧ Int32.toInt (v561 37 0 3) = Int32.toInt (v 37 0 3) + 1) ∨ 0 ≤ Int32.toInt (v561 30 0 8))
                refine ⟨hI_v561, ?_⟩
                omega
          · skip
            have ic529 := i_ne c529
            have : (0 : Int32).toInt = 0 := (by decide)
            refine ok_kb2 (k_X8_takes v452 hI_v452 0 2 ) (fun r563 v564 hr563 => ?_)
            have hr563 : IM v564 ∧ (Int32.toInt (v564 37 0 3) = Int32.toInt (v452 37 0 3)) ∧ (Int32.toInt (v564 37 0 4) = Int32.toInt (v452 37 0 4)) ∧ (Int32.toInt (v452 30 0 8) < 0 ∨ 0 ≤ Int32.toInt (v564 30 0 8)) ∧ (¬ Int32.toInt 0 = 0 ∨ 0 ≤ Int32.toInt (v564 30 0 8)) ∧ (Int32.toInt r563 = 0 ∨ (Int32.toInt r563 = Int32.toInt (v452 30 0 12) ∧ ¬ Int32.toInt 0 = 0)) := hr563
            obtain ⟨hI_v564, hr563⟩ := hr563
            have : ((v564 36 0 3).toInt = 0 ∧ (v564 36 0 4).toInt = 0) ∨ (0 < (v564 36 0 3).toInt ∧ 0 < (v564 36 0 4).toInt) := hI_v564.2.1
            have : (0 : Int) ≤ (v452 37 0 3).toInt ∧ (v452 37 0 3).toInt ≤ (6 : Int) := hI_v452.1 37 0 3
            have : (0 : Int) ≤ (v452 37 0 4).toInt ∧ (v452 37 0 4).toInt ≤ (4 : Int) := hI_v452.1 37 0 4
            have : (-1 : Int) ≤ (v452 30 0 8).toInt ∧ (v452 30 0 8).toInt ≤ (100 : Int) := hI_v452.1 30 0 8
            have : (0 : Int32).toInt = 0 := (by decide)
            have : (2 : Int32).toInt = 2 := (by decide)
            refine ok_ite _ (fun c565 => ?_) (fun c565 => ?_)
            · skip
              have ic565 := i_eq c565
              have : (0 : Int) ≤ (v564 30 0 11).toInt ∧ (v564 30 0 11).toInt ≤ (5 : Int) := hI_v564.1 30 0 11
              have : (4 : Int32).toInt = 4 := (by decide)
              refine ok_kb2 (k_X8_takes v564 hI_v564 1 1 ) (fun r567 v568 hr567 => ?_)
              have hr567 : IM v568 ∧ (Int32.toInt (v568 37 0 3) = Int32.toInt (v564 37 0 3)) ∧ (Int32.toInt (v568 37 0 4) = Int32.toInt (v564 37 0 4)) ∧ (Int32.toInt (v564 30 0 8) < 0 ∨ 0 ≤ Int32.toInt (v568 30 0 8)) ∧ (¬ Int32.toInt 1 = 0 ∨ 0 ≤ Int32.toInt (v568 30 0 8)) ∧ (Int32.toInt r567 = 0 ∨ (Int32.toInt r567 = Int32.toInt (v564 30 0 12) ∧ ¬ Int32.toInt 1 = 0)) := hr567
              obtain ⟨hI_v568, hr567⟩ := hr567
              have : ((v568 36 0 3).toInt = 0 ∧ (v568 36 0 4).toInt = 0) ∨ (0 < (v568 36 0 3).toInt ∧ 0 < (v568 36 0 4).toInt) := hI_v568.2.1
              have : (0 : Int) ≤ (v564 37 0 3).toInt ∧ (v564 37 0 3).toInt ≤ (6 : Int) := hI_v564.1 37 0 3
              have : (0 : Int) ≤ (v564 37 0 4).toInt ∧ (v564 37 0 4).toInt ≤ (4 : Int) := hI_v564.1 37 0 4
              have : (-1 : Int) ≤ (v564 30 0 8).toInt ∧ (v564 30 0 8).toInt ≤ (100 : Int) := hI_v564.1 30 0 8
              have : (1 : Int32).toInt = 1 := (by decide)
              refine ok_bind (k_X8_isWell v568 hI_v568  ) (fun r570 hr570 => ?_)
              have hr570 : (0 : Int) ≤ Int32.toInt r570 ∧ Int32.toInt r570 ≤ (1 : Int) ∧ ((Int32.toInt r570 = 0 ∧ 0 ≤ Int32.toInt (v568 30 0 8)) ∨ (Int32.toInt r570 = 1 ∧ Int32.toInt (v568 30 0 8) < 0)) := hr570
              have : (-1 : Int) ≤ (v568 30 0 8).toInt ∧ (v568 30 0 8).toInt ≤ (100 : Int) := hI_v568.1 30 0 8
              refine ok_ite _ (fun c572 => ?_) (fun c572 => ?_)
              · skip
                have ic572 := i_eq c572
                have : (0 : Int32).toInt = 0 := (by decide)
                refine ok_some ?_
                show IM v568 ∧ (Int32.toInt (v568 37 0 4) = Int32.toInt (v 37 0 4)) ∧ ((Int32.toInt (v 30 0 8) < 0 ∧ Int32.toInt (v568 37 0 3) = Int32.toInt (v 37 0 3) + 1) ∨ 0 ≤ Int32.toInt (v568 30 0 8))
                refine ⟨hI_v568, ?_⟩
                omega
              · skip
                have ic572 := i_ne c572
                have : (0 : Int32).toInt = 0 := (by decide)
                refine ok_grd _ ?_ ?_
                · skip
                  have : (8 : Int32).toInt = 8 := (by decide)
                  have : (3 : Int32).toInt = 3 := (by decide)
                  have : (0 : Int32).toInt = 0 := (by decide)
                  (first | have := sp_mulcx (3 : Int32) (0 : Int32) 0 (by decide) (by omega) | obtain ⟨k429, hk429⟩ := sp_mulc (3 : Int32) (0 : Int32) 0 (by decide))
                  (first | have := sp_addx (8 : Int32) ((3 : Int32) * 0) (by omega) | obtain ⟨k430, hk430⟩ := sp_add (8 : Int32) ((3 : Int32) * 0))
                  exact gr (by omega) (by omega)
                refine ok_let (fun v574 ev574 => ?_)
                have : (8 : Int32).toInt = 8 := (by decide)
                have : (3 : Int32).toInt = 3 := (by decide)
                have : (0 : Int32).toInt = 0 := (by decide)
                (first | have := sp_mulcx (3 : Int32) (0 : Int32) 0 (by decide) (by omega) | obtain ⟨k431, hk431⟩ := sp_mulc (3 : Int32) (0 : Int32) 0 (by decide))
                (first | have := sp_addx (8 : Int32) ((3 : Int32) * 0) (by omega) | obtain ⟨k432, hk432⟩ := sp_add (8 : Int32) ((3 : Int32) * 0))
                have hI_v574 : IM v574 := by
                  rw [ev574]
                  first | exact hI_v568.um7 (by omega) (by omega) | exact hI_v568.u07
                have := i_eq (show v574 30 0 8 = v568 30 0 8 by rw [ev574]; exact up3_t (by decide))
                have := i_eq (show v574 30 0 11 = v568 30 0 11 by rw [ev574]; exact up3_t (by decide))
                have := i_eq (show v574 30 0 12 = v568 30 0 12 by rw [ev574]; exact up3_t (by decide))
                (try have := i_eq (show v574 37 0 3 = v568 37 0 3 by rw [ev574]; exact up3_j (tcne (by omega) (by omega))))
                (try have := i_eq (show v574 37 0 4 = v568 37 0 4 by rw [ev574]; exact up3_j (tcne (by omega) (by omega))))
                have : ((v574 36 0 3).toInt = 0 ∧ (v574 36 0 4).toInt = 0) ∨ (0 < (v574 36 0 3).toInt ∧ 0 < (v574 36 0 4).toInt) := hI_v574.2.1
                refine ok_grd _ ?_ ?_
                · skip
                  have : (8 : Int32).toInt = 8 := (by decide)
                  have : (3 : Int32).toInt = 3 := (by decide)
                  have : (0 : Int32).toInt = 0 := (by decide)
                  (first | have := sp_mulcx (3 : Int32) (0 : Int32) 0 (by decide) (by omega) | obtain ⟨k433, hk433⟩ := sp_mulc (3 : Int32) (0 : Int32) 0 (by decide))
                  (first | have := sp_addx (8 : Int32) ((3 : Int32) * 0) (by omega) | obtain ⟨k434, hk434⟩ := sp_add (8 : Int32) ((3 : Int32) * 0))
                  have : (1 : Int32).toInt = 1 := (by decide)
                  (first | have := sp_addx ((8 : Int32) + ((3 : Int32) * 0)) (1 : Int32) (by omega) | obtain ⟨k435, hk435⟩ := sp_add ((8 : Int32) + ((3 : Int32) * 0)) (1 : Int32))
                  exact gr (by omega) (by omega)
                refine ok_let (fun v576 ev576 => ?_)
                have : (8 : Int32).toInt = 8 := (by decide)
                have : (3 : Int32).toInt = 3 := (by decide)
                have : (0 : Int32).toInt = 0 := (by decide)
                (first | have := sp_mulcx (3 : Int32) (0 : Int32) 0 (by decide) (by omega) | obtain ⟨k436, hk436⟩ := sp_mulc (3 : Int32) (0 : Int32) 0 (by decide))
                (first | have := sp_addx (8 : Int32) ((3 : Int32) * 0) (by omega) | obtain ⟨k437, hk437⟩ := sp_add (8 : Int32) ((3 : Int32) * 0))
                have : (1 : Int32).toInt = 1 := (by decide)
                (first | have := sp_addx ((8 : Int32) + ((3 : Int32) * 0)) (1 : Int32) (by omega) | obtain ⟨k438, hk438⟩ := sp_add ((8 : Int32) + ((3 : Int32) * 0)) (1 : Int32))
                have hI_v576 : IM v576 := by
                  rw [ev576]
                  first | exact hI_v574.um7 (by omega) (by omega) | exact hI_v574.u07
                have := i_eq (show v576 30 0 8 = v574 30 0 8 by rw [ev576]; exact up3_t (by decide))
                have := i_eq (show v576 30 0 11 = v574 30 0 11 by rw [ev576]; exact up3_t (by decide))
                have := i_eq (show v576 30 0 12 = v574 30 0 12 by rw [ev576]; exact up3_t (by decide))
                (try have := i_eq (show v576 37 0 3 = v574 37 0 3 by rw [ev576]; exact up3_j (tcne (by omega) (by omega))))
                (try have := i_eq (show v576 37 0 4 = v574 37 0 4 by rw [ev576]; exact up3_j (tcne (by omega) (by omega))))
                have : ((v576 36 0 3).toInt = 0 ∧ (v576 36 0 4).toInt = 0) ∨ (0 < (v576 36 0 3).toInt ∧ 0 < (v576 36 0 4).toInt) := hI_v576.2.1
                refine ok_grd _ ?_ ?_
                · skip
                  have : (8 : Int32).toInt = 8 := (by decide)
                  have : (3 : Int32).toInt = 3 := (by decide)
                  have : (0 : Int32).toInt = 0 := (by decide)
                  (first | have := sp_mulcx (3 : Int32) (0 : Int32) 0 (by decide) (by omega) | obtain ⟨k439, hk439⟩ := sp_mulc (3 : Int32) (0 : Int32) 0 (by decide))
                  (first | have := sp_addx (8 : Int32) ((3 : Int32) * 0) (by omega) | obtain ⟨k440, hk440⟩ := sp_add (8 : Int32) ((3 : Int32) * 0))
                  have : (2 : Int32).toInt = 2 := (by decide)
                  (first | have := sp_addx ((8 : Int32) + ((3 : Int32) * 0)) (2 : Int32) (by omega) | obtain ⟨k441, hk441⟩ := sp_add ((8 : Int32) + ((3 : Int32) * 0)) (2 : Int32))
                  exact gr (by omega) (by omega)
                refine ok_let (fun v578 ev578 => ?_)
                have : (8 : Int32).toInt = 8 := (by decide)
                have : (3 : Int32).toInt = 3 := (by decide)
                have : (0 : Int32).toInt = 0 := (by decide)
                (first | have := sp_mulcx (3 : Int32) (0 : Int32) 0 (by decide) (by omega) | obtain ⟨k442, hk442⟩ := sp_mulc (3 : Int32) (0 : Int32) 0 (by decide))
                (first | have := sp_addx (8 : Int32) ((3 : Int32) * 0) (by omega) | obtain ⟨k443, hk443⟩ := sp_add (8 : Int32) ((3 : Int32) * 0))
                have : (2 : Int32).toInt = 2 := (by decide)
                (first | have := sp_addx ((8 : Int32) + ((3 : Int32) * 0)) (2 : Int32) (by omega) | obtain ⟨k444, hk444⟩ := sp_add ((8 : Int32) + ((3 : Int32) * 0)) (2 : Int32))
                have : (97 : Int32).toInt = 97 := (by decide)
                have := i_bd r563
                (first | have := sp_subx r563 (97 : Int32) (by omega) | obtain ⟨k445, hk445⟩ := sp_sub r563 (97 : Int32))
                have hI_v578 : IM v578 := by
                  rw [ev578]
                  first | exact hI_v576.um7 (by omega) (by omega) | exact hI_v576.u07
                have := i_eq (show v578 30 0 8 = v576 30 0 8 by rw [ev578]; exact up3_t (by decide))
                have := i_eq (show v578 30 0 11 = v576 30 0 11 by rw [ev578]; exact up3_t (by decide))
                have := i_eq (show v578 30 0 12 = v576 30 0 12 by rw [ev578]; exact up3_t (by decide))
                (try have := i_eq (show v578 37 0 3 = v576 37 0 3 by rw [ev578]; exact up3_j (tcne (by omega) (by omega))))
                (try have := i_eq (show v578 37 0 4 = v576 37 0 4 by rw [ev578]; exact up3_j (tcne (by omega) (by omega))))
                have : ((v578 36 0 3).toInt = 0 ∧ (v578 36 0 4).toInt = 0) ∨ (0 < (v578 36 0 3).toInt ∧ 0 < (v578 36 0 4).toInt) := hI_v578.2.1
                refine ok_let (fun v579 ev579 => ?_)
                have hI_v579 : IM v579 := by
                  rw [ev579]
                  refine hI_v578.upo (by decide) ?_
                  show (0 : Int) ≤ Int32.toInt ((v578 37 0 3) + 1) ∧ Int32.toInt ((v578 37 0 3) + 1) ≤ (6 : Int)
                  have : (0 : Int) ≤ (v578 37 0 3).toInt ∧ (v578 37 0 3).toInt ≤ (6 : Int) := hI_v578.1 37 0 3
                  have : (1 : Int32).toInt = 1 := (by decide)
                  have := i_bd (v578 37 0 3)
                  (first | have := sp_addx (v578 37 0 3) (1 : Int32) (by omega) | obtain ⟨k446, hk446⟩ := sp_add (v578 37 0 3) (1 : Int32))
                  omega
                have := i_eq (show v579 30 0 8 = v578 30 0 8 by rw [ev579]; exact up3_t (by decide))
                have := i_eq (show v579 30 0 11 = v578 30 0 11 by rw [ev579]; exact up3_t (by decide))
                have := i_eq (show v579 30 0 12 = v578 30 0 12 by rw [ev579]; exact up3_t (by decide))
                have := i_eq (show v579 37 0 3 = ((v578 37 0 3) + 1) by rw [ev579]; exact up3_s)
                have : (0 : Int) ≤ (v578 37 0 3).toInt ∧ (v578 37 0 3).toInt ≤ (6 : Int) := hI_v578.1 37 0 3
                have : (1 : Int32).toInt = 1 := (by decide)
                have := i_bd (v578 37 0 3)
                (first | have := sp_addx (v578 37 0 3) (1 : Int32) (by omega) | obtain ⟨k447, hk447⟩ := sp_add (v578 37 0 3) (1 : Int32))
                have := i_eq (show v579 37 0 4 = v578 37 0 4 by rw [ev579]; exact up3_j (by decide))
                have : ((v579 36 0 3).toInt = 0 ∧ (v579 36 0 4).toInt = 0) ∨ (0 < (v579 36 0 3).toInt ∧ 0 < (v579 36 0 4).toInt) := hI_v579.2.1
                refine ok_some ?_
                show IM v579 ∧ (Int32.toInt (v579 37 0 4) = Int32.toInt (v 37 0 4)) ∧ ((Int32.toInt (v 30 0 8) < 0 ∧ Int32.toInt (v579 37 0 3) = Int32.toInt (v 37 0 3) + 1) ∨ 0 ≤ Int32.toInt (v579 30 0 8))
                refine ⟨hI_v579, ?_⟩
                omega
            · skip
              have ic565 := i_ne c565
              have : (0 : Int) ≤ (v564 30 0 11).toInt ∧ (v564 30 0 11).toInt ≤ (5 : Int) := hI_v564.1 30 0 11
              have : (4 : Int32).toInt = 4 := (by decide)
              refine ok_kb2 (k_X8_takes v564 hI_v564 0 1 ) (fun r581 v582 hr581 => ?_)
              have hr581 : IM v582 ∧ (Int32.toInt (v582 37 0 3) = Int32.toInt (v564 37 0 3)) ∧ (Int32.toInt (v582 37 0 4) = Int32.toInt (v564 37 0 4)) ∧ (Int32.toInt (v564 30 0 8) < 0 ∨ 0 ≤ Int32.toInt (v582 30 0 8)) ∧ (¬ Int32.toInt 0 = 0 ∨ 0 ≤ Int32.toInt (v582 30 0 8)) ∧ (Int32.toInt r581 = 0 ∨ (Int32.toInt r581 = Int32.toInt (v564 30 0 12) ∧ ¬ Int32.toInt 0 = 0)) := hr581
              obtain ⟨hI_v582, hr581⟩ := hr581
              have : ((v582 36 0 3).toInt = 0 ∧ (v582 36 0 4).toInt = 0) ∨ (0 < (v582 36 0 3).toInt ∧ 0 < (v582 36 0 4).toInt) := hI_v582.2.1
              have : (0 : Int) ≤ (v564 37 0 3).toInt ∧ (v564 37 0 3).toInt ≤ (6 : Int) := hI_v564.1 37 0 3
              have : (0 : Int) ≤ (v564 37 0 4).toInt ∧ (v564 37 0 4).toInt ≤ (4 : Int) := hI_v564.1 37 0 4
              have : (-1 : Int) ≤ (v564 30 0 8).toInt ∧ (v564 30 0 8).toInt ≤ (100 : Int) := hI_v564.1 30 0 8
              have : (0 : Int32).toInt = 0 := (by decide)
              have : (1 : Int32).toInt = 1 := (by decide)
              refine ok_bind (k_X8_isWell v582 hI_v582  ) (fun r584 hr584 => ?_)
              have hr584 : (0 : Int) ≤ Int32.toInt r584 ∧ Int32.toInt r584 ≤ (1 : Int) ∧ ((Int32.toInt r584 = 0 ∧ 0 ≤ Int32.toInt (v582 30 0 8)) ∨ (Int32.toInt r584 = 1 ∧ Int32.toInt (v582 30 0 8) < 0)) := hr584
              have : (-1 : Int) ≤ (v582 30 0 8).toInt ∧ (v582 30 0 8).toInt ≤ (100 : Int) := hI_v582.1 30 0 8
              refine ok_ite _ (fun c586 => ?_) (fun c586 => ?_)
              · skip
                have ic586 := i_eq c586
                have : (0 : Int32).toInt = 0 := (by decide)
                refine ok_some ?_
                show IM v582 ∧ (Int32.toInt (v582 37 0 4) = Int32.toInt (v 37 0 4)) ∧ ((Int32.toInt (v 30 0 8) < 0 ∧ Int32.toInt (v582 37 0 3) = Int32.toInt (v 37 0 3) + 1) ∨ 0 ≤ Int32.toInt (v582 30 0 8))
                refine ⟨hI_v582, ?_⟩
                omega
              · skip
                have ic586 := i_ne c586
                have : (0 : Int32).toInt = 0 := (by decide)
                refine ok_grd _ ?_ ?_
                · skip
                  have : (8 : Int32).toInt = 8 := (by decide)
                  have : (3 : Int32).toInt = 3 := (by decide)
                  have : (0 : Int32).toInt = 0 := (by decide)
                  (first | have := sp_mulcx (3 : Int32) (0 : Int32) 0 (by decide) (by omega) | obtain ⟨k448, hk448⟩ := sp_mulc (3 : Int32) (0 : Int32) 0 (by decide))
                  (first | have := sp_addx (8 : Int32) ((3 : Int32) * 0) (by omega) | obtain ⟨k449, hk449⟩ := sp_add (8 : Int32) ((3 : Int32) * 0))
                  exact gr (by omega) (by omega)
                refine ok_let (fun v588 ev588 => ?_)
                have : (8 : Int32).toInt = 8 := (by decide)
                have : (3 : Int32).toInt = 3 := (by decide)
                have : (0 : Int32).toInt = 0 := (by decide)
                (first | have := sp_mulcx (3 : Int32) (0 : Int32) 0 (by decide) (by omega) | obtain ⟨k450, hk450⟩ := sp_mulc (3 : Int32) (0 : Int32) 0 (by decide))
                (first | have := sp_addx (8 : Int32) ((3 : Int32) * 0) (by omega) | obtain ⟨k451, hk451⟩ := sp_add (8 : Int32) ((3 : Int32) * 0))
                have hI_v588 : IM v588 := by
                  rw [ev588]
                  first | exact hI_v582.um7 (by omega) (by omega) | exact hI_v582.u07
                have := i_eq (show v588 30 0 8 = v582 30 0 8 by rw [ev588]; exact up3_t (by decide))
                have := i_eq (show v588 30 0 11 = v582 30 0 11 by rw [ev588]; exact up3_t (by decide))
                have := i_eq (show v588 30 0 12 = v582 30 0 12 by rw [ev588]; exact up3_t (by decide))
                (try have := i_eq (show v588 37 0 3 = v582 37 0 3 by rw [ev588]; exact up3_j (tcne (by omega) (by omega))))
                (try have := i_eq (show v588 37 0 4 = v582 37 0 4 by rw [ev588]; exact up3_j (tcne (by omega) (by omega))))
                have : ((v588 36 0 3).toInt = 0 ∧ (v588 36 0 4).toInt = 0) ∨ (0 < (v588 36 0 3).toInt ∧ 0 < (v588 36 0 4).toInt) := hI_v588.2.1
                refine ok_grd _ ?_ ?_
                · skip
                  have : (8 : Int32).toInt = 8 := (by decide)
                  have : (3 : Int32).toInt = 3 := (by decide)
                  have : (0 : Int32).toInt = 0 := (by decide)
                  (first | have := sp_mulcx (3 : Int32) (0 : Int32) 0 (by decide) (by omega) | obtain ⟨k452, hk452⟩ := sp_mulc (3 : Int32) (0 : Int32) 0 (by decide))
                  (first | have := sp_addx (8 : Int32) ((3 : Int32) * 0) (by omega) | obtain ⟨k453, hk453⟩ := sp_add (8 : Int32) ((3 : Int32) * 0))
                  have : (1 : Int32).toInt = 1 := (by decide)
                  (first | have := sp_addx ((8 : Int32) + ((3 : Int32) * 0)) (1 : Int32) (by omega) | obtain ⟨k454, hk454⟩ := sp_add ((8 : Int32) + ((3 : Int32) * 0)) (1 : Int32))
                  exact gr (by omega) (by omega)
                refine ok_let (fun v590 ev590 => ?_)
                have : (8 : Int32).toInt = 8 := (by decide)
                have : (3 : Int32).toInt = 3 := (by decide)
                have : (0 : Int32).toInt = 0 := (by decide)
                (first | have := sp_mulcx (3 : Int32) (0 : Int32) 0 (by decide) (by omega) | obtain ⟨k455, hk455⟩ := sp_mulc (3 : Int32) (0 : Int32) 0 (by decide))
                (first | have := sp_addx (8 : Int32) ((3 : Int32) * 0) (by omega) | obtain ⟨k456, hk456⟩ := sp_add (8 : Int32) ((3 : Int32) * 0))
                have : (1 : Int32).toInt = 1 := (by decide)
                (first | have := sp_addx ((8 : Int32) + ((3 : Int32) * 0)) (1 : Int32) (by omega) | obtain ⟨k457, hk457⟩ := sp_add ((8 : Int32) + ((3 : Int32) * 0)) (1 : Int32))
                have hI_v590 : IM v590 := by
                  rw [ev590]
                  first | exact hI_v588.um7 (by omega) (by omega) | exact hI_v588.u07
                have := i_eq (show v590 30 0 8 = v588 30 0 8 by rw [ev590]; exact up3_t (by decide))
                have := i_eq (show v590 30 0 11 = v588 30 0 11 by rw [ev590]; exact up3_t (by decide))
                have := i_eq (show v590 30 0 12 = v588 30 0 12 by rw [ev590]; exact up3_t (by decide))
                (try have := i_eq (show v590 37 0 3 = v588 37 0 3 by rw [ev590]; exact up3_j (tcne (by omega) (by omega))))
                (try have := i_eq (show v590 37 0 4 = v588 37 0 4 by rw [ev590]; exact up3_j (tcne (by omega) (by omega))))
                have : ((v590 36 0 3).toInt = 0 ∧ (v590 36 0 4).toInt = 0) ∨ (0 < (v590 36 0 3).toInt ∧ 0 < (v590 36 0 4).toInt) := hI_v590.2.1
                refine ok_grd _ ?_ ?_
                · skip
                  have : (8 : Int32).toInt = 8 := (by decide)
                  have : (3 : Int32).toInt = 3 := (by decide)
                  have : (0 : Int32).toInt = 0 := (by decide)
                  (first | have := sp_mulcx (3 : Int32) (0 : Int32) 0 (by decide) (by omega) | obtain ⟨k458, hk458⟩ := sp_mulc (3 : Int32) (0 : Int32) 0 (by decide))
                  (first | have := sp_addx (8 : Int32) ((3 : Int32) * 0) (by omega) | obtain ⟨k459, hk459⟩ := sp_add (8 : Int32) ((3 : Int32) * 0))
                  have : (2 : Int32).toInt = 2 := (by decide)
                  (first | have := sp_addx ((8 : Int32) + ((3 : Int32) * 0)) (2 : Int32) (by omega) | obtain ⟨k460, hk460⟩ := sp_add ((8 : Int32) + ((3 : Int32) * 0)) (2 : Int32))
                  exact gr (by omega) (by omega)
                refine ok_let (fun v592 ev592 => ?_)
                have : (8 : Int32).toInt = 8 := (by decide)
                have : (3 : Int32).toInt = 3 := (by decide)
                have : (0 : Int32).toInt = 0 := (by decide)
                (first | have := sp_mulcx (3 : Int32) (0 : Int32) 0 (by decide) (by omega) | obtain ⟨k461, hk461⟩ := sp_mulc (3 : Int32) (0 : Int32) 0 (by decide))
                (first | have := sp_addx (8 : Int32) ((3 : Int32) * 0) (by omega) | obtain ⟨k462, hk462⟩ := sp_add (8 : Int32) ((3 : Int32) * 0))
                have : (2 : Int32).toInt = 2 := (by decide)
                (first | have := sp_addx ((8 : Int32) + ((3 : Int32) * 0)) (2 : Int32) (by omega) | obtain ⟨k463, hk463⟩ := sp_add ((8 : Int32) + ((3 : Int32) * 0)) (2 : Int32))
                have : (97 : Int32).toInt = 97 := (by decide)
                have := i_bd r563
                (first | have := sp_subx r563 (97 : Int32) (by omega) | obtain ⟨k464, hk464⟩ := sp_sub r563 (97 : Int32))
                have hI_v592 : IM v592 := by
                  rw [ev592]
                  first | exact hI_v590.um7 (by omega) (by omega) | exact hI_v590.u07
                have := i_eq (show v592 30 0 8 = v590 30 0 8 by rw [ev592]; exact up3_t (by decide))
                have := i_eq (show v592 30 0 11 = v590 30 0 11 by rw [ev592]; exact up3_t (by decide))
                have := i_eq (show v592 30 0 12 = v590 30 0 12 by rw [ev592]; exact up3_t (by decide))
                (try have := i_eq (show v592 37 0 3 = v590 37 0 3 by rw [ev592]; exact up3_j (tcne (by omega) (by omega))))
                (try have := i_eq (show v592 37 0 4 = v590 37 0 4 by rw [ev592]; exact up3_j (tcne (by omega) (by omega))))
                have : ((v592 36 0 3).toInt = 0 ∧ (v592 36 0 4).toInt = 0) ∨ (0 < (v592 36 0 3).toInt ∧ 0 < (v592 36 0 4).toInt) := hI_v592.2.1
                refine ok_let (fun v593 ev593 => ?_)
                have hI_v593 : IM v593 := by
                  rw [ev593]
                  refine hI_v592.upo (by decide) ?_
                  show (0 : Int) ≤ Int32.toInt ((v592 37 0 3) + 1) ∧ Int32.toInt ((v592 37 0 3) + 1) ≤ (6 : Int)
                  have : (0 : Int) ≤ (v592 37 0 3).toInt ∧ (v592 37 0 3).toInt ≤ (6 : Int) := hI_v592.1 37 0 3
                  have : (1 : Int32).toInt = 1 := (by decide)
                  have := i_bd (v592 37 0 3)
                  (first | have := sp_addx (v592 37 0 3) (1 : Int32) (by omega) | obtain ⟨k465, hk465⟩ := sp_add (v592 37 0 3) (1 : Int32))
                  omega
                have := i_eq (show v593 30 0 8 = v592 30 0 8 by rw [ev593]; exact up3_t (by decide))
                have := i_eq (show v593 30 0 11 = v592 30 0 11 by rw [ev593]; exact up3_t (by decide))
                have := i_eq (show v593 30 0 12 = v592 30 0 12 by rw [ev593]; exact up3_t (by decide))
                have := i_eq (show v593 37 0 3 = ((v592 37 0 3) + 1) by rw [ev593]; exact up3_s)
                have : (0 : Int) ≤ (v592 37 0 3).toInt ∧ (v592 37 0 3).toInt ≤ (6 : Int) := hI_v592.1 37 0 3
                have : (1 : Int32).toInt = 1 := (by decide)
                have := i_bd (v592 37 0 3)
                (first | have := sp_addx (v592 37 0 3) (1 : Int32) (by omega) | obtain ⟨k466, hk466⟩ := sp_add (v592 37 0 3) (1 : Int32))
                have := i_eq (show v593 37 0 4 = v592 37 0 4 by rw [ev593]; exact up3_j (by decide))
                have : ((v593 36 0 3).toInt = 0 ∧ (v593 36 0 4).toInt = 0) ∨ (0 < (v593 36 0 3).toInt ∧ 0 < (v593 36 0 4).toInt) := hI_v593.2.1
                refine ok_some ?_
                show IM v593 ∧ (Int32.toInt (v593 37 0 4) = Int32.toInt (v 37 0 4)) ∧ ((Int32.toInt (v 30 0 8) < 0 ∧ Int32.toInt (v593 37 0 3) = Int32.toInt (v 37 0 3) + 1) ∨ 0 ≤ Int32.toInt (v593 30 0 8))
                refine ⟨hI_v593, ?_⟩
                omega
        · skip
          have ic525 := i_ne c525
          have : (0 : Int) ≤ (v452 30 0 11).toInt ∧ (v452 30 0 11).toInt ≤ (5 : Int) := hI_v452.1 30 0 11
          have : (1 : Int32).toInt = 1 := (by decide)
          refine ok_kb2 (k_X8_takes v452 hI_v452 0 1 ) (fun r595 v596 hr595 => ?_)
          have hr595 : IM v596 ∧ (Int32.toInt (v596 37 0 3) = Int32.toInt (v452 37 0 3)) ∧ (Int32.toInt (v596 37 0 4) = Int32.toInt (v452 37 0 4)) ∧ (Int32.toInt (v452 30 0 8) < 0 ∨ 0 ≤ Int32.toInt (v596 30 0 8)) ∧ (¬ Int32.toInt 0 = 0 ∨ 0 ≤ Int32.toInt (v596 30 0 8)) ∧ (Int32.toInt r595 = 0 ∨ (Int32.toInt r595 = Int32.toInt (v452 30 0 12) ∧ ¬ Int32.toInt 0 = 0)) := hr595
          obtain ⟨hI_v596, hr595⟩ := hr595
          have : ((v596 36 0 3).toInt = 0 ∧ (v596 36 0 4).toInt = 0) ∨ (0 < (v596 36 0 3).toInt ∧ 0 < (v596 36 0 4).toInt) := hI_v596.2.1
          have : (0 : Int) ≤ (v452 37 0 3).toInt ∧ (v452 37 0 3).toInt ≤ (6 : Int) := hI_v452.1 37 0 3
          have : (0 : Int) ≤ (v452 37 0 4).toInt ∧ (v452 37 0 4).toInt ≤ (4 : Int) := hI_v452.1 37 0 4
          have : (-1 : Int) ≤ (v452 30 0 8).toInt ∧ (v452 30 0 8).toInt ≤ (100 : Int) := hI_v452.1 30 0 8
          have : (0 : Int32).toInt = 0 := (by decide)
          have : (1 : Int32).toInt = 1 := (by decide)
          refine ok_bind (k_X8_isTold v596 hI_v596 r448 r451 ((v596 30 0 12) - 97) ) (fun r598 hr598 => ?_)
          have hr598 : (0 : Int) ≤ Int32.toInt r598 ∧ Int32.toInt r598 ≤ (1 : Int) := hr598
          refine ok_ite _ (fun c600 => ?_) (fun c600 => ?_)
          · skip
            have ic600 := i_eq c600
            have : (0 : Int32).toInt = 0 := (by decide)
            refine ok_kb2 (k_X8_takes v596 hI_v596 1 2 ) (fun r602 v603 hr602 => ?_)
            have hr602 : IM v603 ∧ (Int32.toInt (v603 37 0 3) = Int32.toInt (v596 37 0 3)) ∧ (Int32.toInt (v603 37 0 4) = Int32.toInt (v596 37 0 4)) ∧ (Int32.toInt (v596 30 0 8) < 0 ∨ 0 ≤ Int32.toInt (v603 30 0 8)) ∧ (¬ Int32.toInt 1 = 0 ∨ 0 ≤ Int32.toInt (v603 30 0 8)) ∧ (Int32.toInt r602 = 0 ∨ (Int32.toInt r602 = Int32.toInt (v596 30 0 12) ∧ ¬ Int32.toInt 1 = 0)) := hr602
            obtain ⟨hI_v603, hr602⟩ := hr602
            have : ((v603 36 0 3).toInt = 0 ∧ (v603 36 0 4).toInt = 0) ∨ (0 < (v603 36 0 3).toInt ∧ 0 < (v603 36 0 4).toInt) := hI_v603.2.1
            have : (0 : Int) ≤ (v596 37 0 3).toInt ∧ (v596 37 0 3).toInt ≤ (6 : Int) := hI_v596.1 37 0 3
            have : (0 : Int) ≤ (v596 37 0 4).toInt ∧ (v596 37 0 4).toInt ≤ (4 : Int) := hI_v596.1 37 0 4
            have : (-1 : Int) ≤ (v596 30 0 8).toInt ∧ (v596 30 0 8).toInt ≤ (100 : Int) := hI_v596.1 30 0 8
            have : (1 : Int32).toInt = 1 := (by decide)
            have : (2 : Int32).toInt = 2 := (by decide)
            refine ok_ite _ (fun c604 => ?_) (fun c604 => ?_)
            · skip
              have ic604 := i_eq c604
              have : (0 : Int) ≤ (v603 30 0 11).toInt ∧ (v603 30 0 11).toInt ≤ (5 : Int) := hI_v603.1 30 0 11
              have : (4 : Int32).toInt = 4 := (by decide)
              refine ok_kb2 (k_X8_takes v603 hI_v603 1 1 ) (fun r606 v607 hr606 => ?_)
              have hr606 : IM v607 ∧ (Int32.toInt (v607 37 0 3) = Int32.toInt (v603 37 0 3)) ∧ (Int32.toInt (v607 37 0 4) = Int32.toInt (v603 37 0 4)) ∧ (Int32.toInt (v603 30 0 8) < 0 ∨ 0 ≤ Int32.toInt (v607 30 0 8)) ∧ (¬ Int32.toInt 1 = 0 ∨ 0 ≤ Int32.toInt (v607 30 0 8)) ∧ (Int32.toInt r606 = 0 ∨ (Int32.toInt r606 = Int32.toInt (v603 30 0 12) ∧ ¬ Int32.toInt 1 = 0)) := hr606
              obtain ⟨hI_v607, hr606⟩ := hr606
              have : ((v607 36 0 3).toInt = 0 ∧ (v607 36 0 4).toInt = 0) ∨ (0 < (v607 36 0 3).toInt ∧ 0 < (v607 36 0 4).toInt) := hI_v607.2.1
              have : (0 : Int) ≤ (v603 37 0 3).toInt ∧ (v603 37 0 3).toInt ≤ (6 : Int) := hI_v603.1 37 0 3
              have : (0 : Int) ≤ (v603 37 0 4).toInt ∧ (v603 37 0 4).toInt ≤ (4 : Int) := hI_v603.1 37 0 4
              have : (-1 : Int) ≤ (v603 30 0 8).toInt ∧ (v603 30 0 8).toInt ≤ (100 : Int) := hI_v603.1 30 0 8
              have : (1 : Int32).toInt = 1 := (by decide)
              refine ok_bind (k_X8_isWell v607 hI_v607  ) (fun r609 hr609 => ?_)
              have hr609 : (0 : Int) ≤ Int32.toInt r609 ∧ Int32.toInt r609 ≤ (1 : Int) ∧ ((Int32.toInt r609 = 0 ∧ 0 ≤ Int32.toInt (v607 30 0 8)) ∨ (Int32.toInt r609 = 1 ∧ Int32.toInt (v607 30 0 8) < 0)) := hr609
              have : (-1 : Int) ≤ (v607 30 0 8).toInt ∧ (v607 30 0 8).toInt ≤ (100 : Int) := hI_v607.1 30 0 8
              refine ok_ite _ (fun c611 => ?_) (fun c611 => ?_)
              · skip
                have ic611 := i_eq c611
                have : (0 : Int32).toInt = 0 := (by decide)
                refine ok_some ?_
                show IM v607 ∧ (Int32.toInt (v607 37 0 4) = Int32.toInt (v 37 0 4)) ∧ ((Int32.toInt (v 30 0 8) < 0 ∧ Int32.toInt (v607 37 0 3) = Int32.toInt (v 37 0 3) + 1) ∨ 0 ≤ Int32.toInt (v607 30 0 8))
                refine ⟨hI_v607, ?_⟩
                omega
              · skip
                have ic611 := i_ne c611
                have : (0 : Int32).toInt = 0 := (by decide)
                refine ok_grd _ ?_ ?_
                · skip
                  have : (8 : Int32).toInt = 8 := (by decide)
                  have : (3 : Int32).toInt = 3 := (by decide)
                  have : (0 : Int32).toInt = 0 := (by decide)
                  (first | have := sp_mulcx (3 : Int32) (0 : Int32) 0 (by decide) (by omega) | obtain ⟨k467, hk467⟩ := sp_mulc (3 : Int32) (0 : Int32) 0 (by decide))
                  (first | have := sp_addx (8 : Int32) ((3 : Int32) * 0) (by omega) | obtain ⟨k468, hk468⟩ := sp_add (8 : Int32) ((3 : Int32) * 0))
                  exact gr (by omega) (by omega)
                refine ok_let (fun v613 ev613 => ?_)
                have : (8 : Int32).toInt = 8 := (by decide)
                have : (3 : Int32).toInt = 3 := (by decide)
                have : (0 : Int32).toInt = 0 := (by decide)
                (first | have := sp_mulcx (3 : Int32) (0 : Int32) 0 (by decide) (by omega) | obtain ⟨k469, hk469⟩ := sp_mulc (3 : Int32) (0 : Int32) 0 (by decide))
                (first | have := sp_addx (8 : Int32) ((3 : Int32) * 0) (by omega) | obtain ⟨k470, hk470⟩ := sp_add (8 : Int32) ((3 : Int32) * 0))
                have hI_v613 : IM v613 := by
                  rw [ev613]
                  first | exact hI_v607.um7 (by omega) (by omega) | exact hI_v607.u07
                have := i_eq (show v613 30 0 8 = v607 30 0 8 by rw [ev613]; exact up3_t (by decide))
                have := i_eq (show v613 30 0 11 = v607 30 0 11 by rw [ev613]; exact up3_t (by decide))
                have := i_eq (show v613 30 0 12 = v607 30 0 12 by rw [ev613]; exact up3_t (by decide))
                (try have := i_eq (show v613 37 0 3 = v607 37 0 3 by rw [ev613]; exact up3_j (tcne (by omega) (by omega))))
                (try have := i_eq (show v613 37 0 4 = v607 37 0 4 by rw [ev613]; exact up3_j (tcne (by omega) (by omega))))
                have : ((v613 36 0 3).toInt = 0 ∧ (v613 36 0 4).toInt = 0) ∨ (0 < (v613 36 0 3).toInt ∧ 0 < (v613 36 0 4).toInt) := hI_v613.2.1
                refine ok_grd _ ?_ ?_
                · skip
                  have : (8 : Int32).toInt = 8 := (by decide)
                  have : (3 : Int32).toInt = 3 := (by decide)
                  have : (0 : Int32).toInt = 0 := (by decide)
                  (first | have := sp_mulcx (3 : Int32) (0 : Int32) 0 (by decide) (by omega) | obtain ⟨k471, hk471⟩ := sp_mulc (3 : Int32) (0 : Int32) 0 (by decide))
                  (first | have := sp_addx (8 : Int32) ((3 : Int32) * 0) (by omega) | obtain ⟨k472, hk472⟩ := sp_add (8 : Int32) ((3 : Int32) * 0))
                  have : (1 : Int32).toInt = 1 := (by decide)
                  (first | have := sp_addx ((8 : Int32) + ((3 : Int32) * 0)) (1 : Int32) (by omega) | obtain ⟨k473, hk473⟩ := sp_add ((8 : Int32) + ((3 : Int32) * 0)) (1 : Int32))
                  exact gr (by omega) (by omega)
                refine ok_let (fun v615 ev615 => ?_)
                have : (8 : Int32).toInt = 8 := (by decide)
                have : (3 : Int32).toInt = 3 := (by decide)
                have : (0 : Int32).toInt = 0 := (by decide)
                (first | have := sp_mulcx (3 : Int32) (0 : Int32) 0 (by decide) (by omega) | obtain ⟨k474, hk474⟩ := sp_mulc (3 : Int32) (0 : Int32) 0 (by decide))
                (first | have := sp_addx (8 : Int32) ((3 : Int32) * 0) (by omega) | obtain ⟨k475, hk475⟩ := sp_add (8 : Int32) ((3 : Int32) * 0))
                have : (1 : Int32).toInt = 1 := (by decide)
                (first | have := sp_addx ((8 : Int32) + ((3 : Int32) * 0)) (1 : Int32) (by omega) | obtain ⟨k476, hk476⟩ := sp_add ((8 : Int32) + ((3 : Int32) * 0)) (1 : Int32))
                have hI_v615 : IM v615 := by
                  rw [ev615]
                  first | exact hI_v613.um7 (by omega) (by omega) | exact hI_v613.u07
                have := i_eq (show v615 30 0 8 = v613 30 0 8 by rw [ev615]; exact up3_t (by decide))
                have := i_eq (show v615 30 0 11 = v613 30 0 11 by rw [ev615]; exact up3_t (by decide))
                have := i_eq (show v615 30 0 12 = v613 30 0 12 by rw [ev615]; exact up3_t (by decide))
                (try have := i_eq (show v615 37 0 3 = v613 37 0 3 by rw [ev615]; exact up3_j (tcne (by omega) (by omega))))
                (try have := i_eq (show v615 37 0 4 = v613 37 0 4 by rw [ev615]; exact up3_j (tcne (by omega) (by omega))))
                have : ((v615 36 0 3).toInt = 0 ∧ (v615 36 0 4).toInt = 0) ∨ (0 < (v615 36 0 3).toInt ∧ 0 < (v615 36 0 4).toInt) := hI_v615.2.1
                refine ok_grd _ ?_ ?_
                · skip
                  have : (8 : Int32).toInt = 8 := (by decide)
                  have : (3 : Int32).toInt = 3 := (by decide)
                  have : (0 : Int32).toInt = 0 := (by decide)
                  (first | have := sp_mulcx (3 : Int32) (0 : Int32) 0 (by decide) (by omega) | obtain ⟨k477, hk477⟩ := sp_mulc (3 : Int32) (0 : Int32) 0 (by decide))
                  (first | have := sp_addx (8 : Int32) ((3 : Int32) * 0) (by omega) | obtain ⟨k478, hk478⟩ := sp_add (8 : Int32) ((3 : Int32) * 0))
                  have : (2 : Int32).toInt = 2 := (by decide)
                  (first | have := sp_addx ((8 : Int32) + ((3 : Int32) * 0)) (2 : Int32) (by omega) | obtain ⟨k479, hk479⟩ := sp_add ((8 : Int32) + ((3 : Int32) * 0)) (2 : Int32))
                  exact gr (by omega) (by omega)
                refine ok_let (fun v617 ev617 => ?_)
                have : (8 : Int32).toInt = 8 := (by decide)
                have : (3 : Int32).toInt = 3 := (by decide)
                have : (0 : Int32).toInt = 0 := (by decide)
                (first | have := sp_mulcx (3 : Int32) (0 : Int32) 0 (by decide) (by omega) | obtain ⟨k480, hk480⟩ := sp_mulc (3 : Int32) (0 : Int32) 0 (by decide))
                (first | have := sp_addx (8 : Int32) ((3 : Int32) * 0) (by omega) | obtain ⟨k481, hk481⟩ := sp_add (8 : Int32) ((3 : Int32) * 0))
                have : (2 : Int32).toInt = 2 := (by decide)
                (first | have := sp_addx ((8 : Int32) + ((3 : Int32) * 0)) (2 : Int32) (by omega) | obtain ⟨k482, hk482⟩ := sp_add ((8 : Int32) + ((3 : Int32) * 0)) (2 : Int32))
                have : (97 : Int32).toInt = 97 := (by decide)
                have := i_bd r602
                (first | have := sp_subx r602 (97 : Int32) (by omega) | obtain ⟨k483, hk483⟩ := sp_sub r602 (97 : Int32))
                have hI_v617 : IM v617 := by
                  rw [ev617]
                  first | exact hI_v615.um7 (by omega) (by omega) | exact hI_v615.u07
                have := i_eq (show v617 30 0 8 = v615 30 0 8 by rw [ev617]; exact up3_t (by decide))
                have := i_eq (show v617 30 0 11 = v615 30 0 11 by rw [ev617]; exact up3_t (by decide))
                have := i_eq (show v617 30 0 12 = v615 30 0 12 by rw [ev617]; exact up3_t (by decide))
                (try have := i_eq (show v617 37 0 3 = v615 37 0 3 by rw [ev617]; exact up3_j (tcne (by omega) (by omega))))
                (try have := i_eq (show v617 37 0 4 = v615 37 0 4 by rw [ev617]; exact up3_j (tcne (by omega) (by omega))))
                have : ((v617 36 0 3).toInt = 0 ∧ (v617 36 0 4).toInt = 0) ∨ (0 < (v617 36 0 3).toInt ∧ 0 < (v617 36 0 4).toInt) := hI_v617.2.1
                refine ok_let (fun v618 ev618 => ?_)
                have hI_v618 : IM v618 := by
                  rw [ev618]
                  refine hI_v617.upo (by decide) ?_
                  show (0 : Int) ≤ Int32.toInt ((v617 37 0 3) + 1) ∧ Int32.toInt ((v617 37 0 3) + 1) ≤ (6 : Int)
                  have : (0 : Int) ≤ (v617 37 0 3).toInt ∧ (v617 37 0 3).toInt ≤ (6 : Int) := hI_v617.1 37 0 3
                  have : (1 : Int32).toInt = 1 := (by decide)
                  have := i_bd (v617 37 0 3)
                  (first | have := sp_addx (v617 37 0 3) (1 : Int32) (by omega) | obtain ⟨k484, hk484⟩ := sp_add (v617 37 0 3) (1 : Int32))
                  omega
                have := i_eq (show v618 30 0 8 = v617 30 0 8 by rw [ev618]; exact up3_t (by decide))
                have := i_eq (show v618 30 0 11 = v617 30 0 11 by rw [ev618]; exact up3_t (by decide))
                have := i_eq (show v618 30 0 12 = v617 30 0 12 by rw [ev618]; exact up3_t (by decide))
                have := i_eq (show v618 37 0 3 = ((v617 37 0 3) + 1) by rw [ev618]; exact up3_s)
                have : (0 : Int) ≤ (v617 37 0 3).toInt ∧ (v617 37 0 3).toInt ≤ (6 : Int) := hI_v617.1 37 0 3
                have : (1 : Int32).toInt = 1 := (by decide)
                have := i_bd (v617 37 0 3)
                (first | have := sp_addx (v617 37 0 3) (1 : Int32) (by omega) | obtain ⟨k485, hk485⟩ := sp_add (v617 37 0 3) (1 : Int32))
                have := i_eq (show v618 37 0 4 = v617 37 0 4 by rw [ev618]; exact up3_j (by decide))
                have : ((v618 36 0 3).toInt = 0 ∧ (v618 36 0 4).toInt = 0) ∨ (0 < (v618 36 0 3).toInt ∧ 0 < (v618 36 0 4).toInt) := hI_v618.2.1
                refine ok_some ?_
                show IM v618 ∧ (Int32.toInt (v618 37 0 4) = Int32.toInt (v 37 0 4)) ∧ ((Int32.toInt (v 30 0 8) < 0 ∧ Int32.toInt (v618 37 0 3) = Int32.toInt (v 37 0 3) + 1) ∨ 0 ≤ Int32.toInt (v618 30 0 8))
                refine ⟨hI_v618, ?_⟩
                omega
            · skip
              have ic604 := i_ne c604
              have : (0 : Int) ≤ (v603 30 0 11).toInt ∧ (v603 30 0 11).toInt ≤ (5 : Int) := hI_v603.1 30 0 11
              have : (4 : Int32).toInt = 4 := (by decide)
              refine ok_kb2 (k_X8_takes v603 hI_v603 0 1 ) (fun r620 v621 hr620 => ?_)
              have hr620 : IM v621 ∧ (Int32.toInt (v621 37 0 3) = Int32.toInt (v603 37 0 3)) ∧ (Int32.toInt (v621 37 0 4) = Int32.toInt (v603 37 0 4)) ∧ (Int32.toInt (v603 30 0 8) < 0 ∨ 0 ≤ Int32.toInt (v621 30 0 8)) ∧ (¬ Int32.toInt 0 = 0 ∨ 0 ≤ Int32.toInt (v621 30 0 8)) ∧ (Int32.toInt r620 = 0 ∨ (Int32.toInt r620 = Int32.toInt (v603 30 0 12) ∧ ¬ Int32.toInt 0 = 0)) := hr620
              obtain ⟨hI_v621, hr620⟩ := hr620
              have : ((v621 36 0 3).toInt = 0 ∧ (v621 36 0 4).toInt = 0) ∨ (0 < (v621 36 0 3).toInt ∧ 0 < (v621 36 0 4).toInt) := hI_v621.2.1
              have : (0 : Int) ≤ (v603 37 0 3).toInt ∧ (v603 37 0 3).toInt ≤ (6 : Int) := hI_v603.1 37 0 3
              have : (0 : Int) ≤ (v603 37 0 4).toInt ∧ (v603 37 0 4).toInt ≤ (4 : Int) := hI_v603.1 37 0 4
              have : (-1 : Int) ≤ (v603 30 0 8).toInt ∧ (v603 30 0 8).toInt ≤ (100 : Int) := hI_v603.1 30 0 8
              have : (0 : Int32).toInt = 0 := (by decide)
              have : (1 : Int32).toInt = 1 := (by decide)
              refine ok_bind (k_X8_isWell v621 hI_v621  ) (fun r623 hr623 => ?_)
              have hr623 : (0 : Int) ≤ Int32.toInt r623 ∧ Int32.toInt r623 ≤ (1 : Int) ∧ ((Int32.toInt r623 = 0 ∧ 0 ≤ Int32.toInt (v621 30 0 8)) ∨ (Int32.toInt r623 = 1 ∧ Int32.toInt (v621 30 0 8) < 0)) := hr623
              have : (-1 : Int) ≤ (v621 30 0 8).toInt ∧ (v621 30 0 8).toInt ≤ (100 : Int) := hI_v621.1 30 0 8
              refine ok_ite _ (fun c625 => ?_) (fun c625 => ?_)
              · skip
                have ic625 := i_eq c625
                have : (0 : Int32).toInt = 0 := (by decide)
                refine ok_some ?_
                show IM v621 ∧ (Int32.toInt (v621 37 0 4) = Int32.toInt (v 37 0 4)) ∧ ((Int32.toInt (v 30 0 8) < 0 ∧ Int32.toInt (v621 37 0 3) = Int32.toInt (v 37 0 3) + 1) ∨ 0 ≤ Int32.toInt (v621 30 0 8))
                refine ⟨hI_v621, ?_⟩
                omega
              · skip
                have ic625 := i_ne c625
                have : (0 : Int32).toInt = 0 := (by decide)
                refine ok_grd _ ?_ ?_
                · skip
                  have : (8 : Int32).toInt = 8 := (by decide)
                  have : (3 : Int32).toInt = 3 := (by decide)
                  have : (0 : Int32).toInt = 0 := (by decide)
                  (first | have := sp_mulcx (3 : Int32) (0 : Int32) 0 (by decide) (by omega) | obtain ⟨k486, hk486⟩ := sp_mulc (3 : Int32) (0 : Int32) 0 (by decide))
                  (first | have := sp_addx (8 : Int32) ((3 : Int32) * 0) (by omega) | obtain ⟨k487, hk487⟩ := sp_add (8 : Int32) ((3 : Int32) * 0))
                  exact gr (by omega) (by omega)
                refine ok_let (fun v627 ev627 => ?_)
                have : (8 : Int32).toInt = 8 := (by decide)
                have : (3 : Int32).toInt = 3 := (by decide)
                have : (0 : Int32).toInt = 0 := (by decide)
                (first | have := sp_mulcx (3 : Int32) (0 : Int32) 0 (by decide) (by omega) | obtain ⟨k488, hk488⟩ := sp_mulc (3 : Int32) (0 : Int32) 0 (by decide))
                (first | have := sp_addx (8 : Int32) ((3 : Int32) * 0) (by omega) | obtain ⟨k489, hk489⟩ := sp_add (8 : Int32) ((3 : Int32) * 0))
                have hI_v627 : IM v627 := by
                  rw [ev627]
                  first | exact hI_v621.um7 (by omega) (by omega) | exact hI_v621.u07
                have := i_eq (show v627 30 0 8 = v621 30 0 8 by rw [ev627]; exact up3_t (by decide))
                have := i_eq (show v627 30 0 11 = v621 30 0 11 by rw [ev627]; exact up3_t (by decide))
                have := i_eq (show v627 30 0 12 = v621 30 0 12 by rw [ev627]; exact up3_t (by decide))
                (try have := i_eq (show v627 37 0 3 = v621 37 0 3 by rw [ev627]; exact up3_j (tcne (by omega) (by omega))))
                (try have := i_eq (show v627 37 0 4 = v621 37 0 4 by rw [ev627]; exact up3_j (tcne (by omega) (by omega))))
                have : ((v627 36 0 3).toInt = 0 ∧ (v627 36 0 4).toInt = 0) ∨ (0 < (v627 36 0 3).toInt ∧ 0 < (v627 36 0 4).toInt) := hI_v627.2.1
                refine ok_grd _ ?_ ?_
                · skip
                  have : (8 : Int32).toInt = 8 := (by decide)
                  have : (3 : Int32).toInt = 3 := (by decide)
                  have : (0 : Int32).toInt = 0 := (by decide)
                  (first | have := sp_mulcx (3 : Int32) (0 : Int32) 0 (by decide) (by omega) | obtain ⟨k490, hk490⟩ := sp_mulc (3 : Int32) (0 : Int32) 0 (by decide))
                  (first | have := sp_addx (8 : Int32) ((3 : Int32) * 0) (by omega) | obtain ⟨k491, hk491⟩ := sp_add (8 : Int32) ((3 : Int32) * 0))
                  have : (1 : Int32).toInt = 1 := (by decide)
                  (first | have := sp_addx ((8 : Int32) + ((3 : Int32) * 0)) (1 : Int32) (by omega) | obtain ⟨k492, hk492⟩ := sp_add ((8 : Int32) + ((3 : Int32) * 0)) (1 : Int32))
                  exact gr (by omega) (by omega)
                refine ok_let (fun v629 ev629 => ?_)
                have : (8 : Int32).toInt = 8 := (by decide)
                have : (3 : Int32).toInt = 3 := (by decide)
                have : (0 : Int32).toInt = 0 := (by decide)
                (first | have := sp_mulcx (3 : Int32) (0 : Int32) 0 (by decide) (by omega) | obtain ⟨k493, hk493⟩ := sp_mulc (3 : Int32) (0 : Int32) 0 (by decide))
                (first | have := sp_addx (8 : Int32) ((3 : Int32) * 0) (by omega) | obtain ⟨k494, hk494⟩ := sp_add (8 : Int32) ((3 : Int32) * 0))
                have : (1 : Int32).toInt = 1 := (by decide)
                (first | have := sp_addx ((8 : Int32) + ((3 : Int32) * 0)) (1 : Int32) (by omega) | obtain ⟨k495, hk495⟩ := sp_add ((8 : Int32) + ((3 : Int32) * 0)) (1 : Int32))
                have hI_v629 : IM v629 := by
                  rw [ev629]
                  first | exact hI_v627.um7 (by omega) (by omega) | exact hI_v627.u07
                have := i_eq (show v629 30 0 8 = v627 30 0 8 by rw [ev629]; exact up3_t (by decide))
                have := i_eq (show v629 30 0 11 = v627 30 0 11 by rw [ev629]; exact up3_t (by decide))
                have := i_eq (show v629 30 0 12 = v627 30 0 12 by rw [ev629]; exact up3_t (by decide))
                (try have := i_eq (show v629 37 0 3 = v627 37 0 3 by rw [ev629]; exact up3_j (tcne (by omega) (by omega))))
                (try have := i_eq (show v629 37 0 4 = v627 37 0 4 by rw [ev629]; exact up3_j (tcne (by omega) (by omega))))
                have : ((v629 36 0 3).toInt = 0 ∧ (v629 36 0 4).toInt = 0) ∨ (0 < (v629 36 0 3).toInt ∧ 0 < (v629 36 0 4).toInt) := hI_v629.2.1
                refine ok_grd _ ?_ ?_
                · skip
                  have : (8 : Int32).toInt = 8 := (by decide)
                  have : (3 : Int32).toInt = 3 := (by decide)
                  have : (0 : Int32).toInt = 0 := (by decide)
                  (first | have := sp_mulcx (3 : Int32) (0 : Int32) 0 (by decide) (by omega) | obtain ⟨k496, hk496⟩ := sp_mulc (3 : Int32) (0 : Int32) 0 (by decide))
                  (first | have := sp_addx (8 : Int32) ((3 : Int32) * 0) (by omega) | obtain ⟨k497, hk497⟩ := sp_add (8 : Int32) ((3 : Int32) * 0))
                  have : (2 : Int32).toInt = 2 := (by decide)
                  (first | have := sp_addx ((8 : Int32) + ((3 : Int32) * 0)) (2 : Int32) (by omega) | obtain ⟨k498, hk498⟩ := sp_add ((8 : Int32) + ((3 : Int32) * 0)) (2 : Int32))
                  exact gr (by omega) (by omega)
                refine ok_let (fun v631 ev631 => ?_)
                have : (8 : Int32).toInt = 8 := (by decide)
                have : (3 : Int32).toInt = 3 := (by decide)
                have : (0 : Int32).toInt = 0 := (by decide)
                (first | have := sp_mulcx (3 : Int32) (0 : Int32) 0 (by decide) (by omega) | obtain ⟨k499, hk499⟩ := sp_mulc (3 : Int32) (0 : Int32) 0 (by decide))
                (first | have := sp_addx (8 : Int32) ((3 : Int32) * 0) (by omega) | obtain ⟨k500, hk500⟩ := sp_add (8 : Int32) ((3 : Int32) * 0))
                have : (2 : Int32).toInt = 2 := (by decide)
                (first | have := sp_addx ((8 : Int32) + ((3 : Int32) * 0)) (2 : Int32) (by omega) | obtain ⟨k501, hk501⟩ := sp_add ((8 : Int32) + ((3 : Int32) * 0)) (2 : Int32))
                have : (97 : Int32).toInt = 97 := (by decide)
                have := i_bd r602
                (first | have := sp_subx r602 (97 : Int32) (by omega) | obtain ⟨k502, hk502⟩ := sp_sub r602 (97 : Int32))
                have hI_v631 : IM v631 := by
                  rw [ev631]
                  first | exact hI_v629.um7 (by omega) (by omega) | exact hI_v629.u07
                have := i_eq (show v631 30 0 8 = v629 30 0 8 by rw [ev631]; exact up3_t (by decide))
                have := i_eq (show v631 30 0 11 = v629 30 0 11 by rw [ev631]; exact up3_t (by decide))
                have := i_eq (show v631 30 0 12 = v629 30 0 12 by rw [ev631]; exact up3_t (by decide))
                (try have := i_eq (show v631 37 0 3 = v629 37 0 3 by rw [ev631]; exact up3_j (tcne (by omega) (by omega))))
                (try have := i_eq (show v631 37 0 4 = v629 37 0 4 by rw [ev631]; exact up3_j (tcne (by omega) (by omega))))
                have : ((v631 36 0 3).toInt = 0 ∧ (v631 36 0 4).toInt = 0) ∨ (0 < (v631 36 0 3).toInt ∧ 0 < (v631 36 0 4).toInt) := hI_v631.2.1
                refine ok_let (fun v632 ev632 => ?_)
                have hI_v632 : IM v632 := by
                  rw [ev632]
                  refine hI_v631.upo (by decide) ?_
                  show (0 : Int) ≤ Int32.toInt ((v631 37 0 3) + 1) ∧ Int32.toInt ((v631 37 0 3) + 1) ≤ (6 : Int)
                  have : (0 : Int) ≤ (v631 37 0 3).toInt ∧ (v631 37 0 3).toInt ≤ (6 : Int) := hI_v631.1 37 0 3
                  have : (1 : Int32).toInt = 1 := (by decide)
                  have := i_bd (v631 37 0 3)
                  (first | have := sp_addx (v631 37 0 3) (1 : Int32) (by omega) | obtain ⟨k503, hk503⟩ := sp_add (v631 37 0 3) (1 : Int32))
                  omega
                have := i_eq (show v632 30 0 8 = v631 30 0 8 by rw [ev632]; exact up3_t (by decide))
                have := i_eq (show v632 30 0 11 = v631 30 0 11 by rw [ev632]; exact up3_t (by decide))
                have := i_eq (show v632 30 0 12 = v631 30 0 12 by rw [ev632]; exact up3_t (by decide))
                have := i_eq (show v632 37 0 3 = ((v631 37 0 3) + 1) by rw [ev632]; exact up3_s)
                have : (0 : Int) ≤ (v631 37 0 3).toInt ∧ (v631 37 0 3).toInt ≤ (6 : Int) := hI_v631.1 37 0 3
                have : (1 : Int32).toInt = 1 := (by decide)
                have := i_bd (v631 37 0 3)
                (first | have := sp_addx (v631 37 0 3) (1 : Int32) (by omega) | obtain ⟨k504, hk504⟩ := sp_add (v631 37 0 3) (1 : Int32))
                have := i_eq (show v632 37 0 4 = v631 37 0 4 by rw [ev632]; exact up3_j (by decide))
                have : ((v632 36 0 3).toInt = 0 ∧ (v632 36 0 4).toInt = 0) ∨ (0 < (v632 36 0 3).toInt ∧ 0 < (v632 36 0 4).toInt) := hI_v632.2.1
                refine ok_some ?_
                show IM v632 ∧ (Int32.toInt (v632 37 0 4) = Int32.toInt (v 37 0 4)) ∧ ((Int32.toInt (v 30 0 8) < 0 ∧ Int32.toInt (v632 37 0 3) = Int32.toInt (v 37 0 3) + 1) ∨ 0 ≤ Int32.toInt (v632 30 0 8))
                refine ⟨hI_v632, ?_⟩
                omega
          · skip
            have ic600 := i_ne c600
            have : (0 : Int32).toInt = 0 := (by decide)
            refine ok_kb2 (k_X8_takes v596 hI_v596 0 2 ) (fun r634 v635 hr634 => ?_)
            have hr634 : IM v635 ∧ (Int32.toInt (v635 37 0 3) = Int32.toInt (v596 37 0 3)) ∧ (Int32.toInt (v635 37 0 4) = Int32.toInt (v596 37 0 4)) ∧ (Int32.toInt (v596 30 0 8) < 0 ∨ 0 ≤ Int32.toInt (v635 30 0 8)) ∧ (¬ Int32.toInt 0 = 0 ∨ 0 ≤ Int32.toInt (v635 30 0 8)) ∧ (Int32.toInt r634 = 0 ∨ (Int32.toInt r634 = Int32.toInt (v596 30 0 12) ∧ ¬ Int32.toInt 0 = 0)) := hr634
            obtain ⟨hI_v635, hr634⟩ := hr634
            have : ((v635 36 0 3).toInt = 0 ∧ (v635 36 0 4).toInt = 0) ∨ (0 < (v635 36 0 3).toInt ∧ 0 < (v635 36 0 4).toInt) := hI_v635.2.1
            have : (0 : Int) ≤ (v596 37 0 3).toInt ∧ (v596 37 0 3).toInt ≤ (6 : Int) := hI_v596.1 37 0 3
            have : (0 : Int) ≤ (v596 37 0 4).toInt ∧ (v596 37 0 4).toInt ≤ (4 : Int) := hI_v596.1 37 0 4
            have : (-1 : Int) ≤ (v596 30 0 8).toInt ∧ (v596 30 0 8).toInt ≤ (100 : Int) := hI_v596.1 30 0 8
            have : (0 : Int32).toInt = 0 := (by decide)
            have : (2 : Int32).toInt = 2 := (by decide)
            refine ok_ite _ (fun c636 => ?_) (fun c636 => ?_)
            · skip
              have ic636 := i_eq c636
              have : (0 : Int) ≤ (v635 30 0 11).toInt ∧ (v635 30 0 11).toInt ≤ (5 : Int) := hI_v635.1 30 0 11
              have : (4 : Int32).toInt = 4 := (by decide)
              refine ok_kb2 (k_X8_takes v635 hI_v635 1 1 ) (fun r638 v639 hr638 => ?_)
              have hr638 : IM v639 ∧ (Int32.toInt (v639 37 0 3) = Int32.toInt (v635 37 0 3)) ∧ (Int32.toInt (v639 37 0 4) = Int32.toInt (v635 37 0 4)) ∧ (Int32.toInt (v635 30 0 8) < 0 ∨ 0 ≤ Int32.toInt (v639 30 0 8)) ∧ (¬ Int32.toInt 1 = 0 ∨ 0 ≤ Int32.toInt (v639 30 0 8)) ∧ (Int32.toInt r638 = 0 ∨ (Int32.toInt r638 = Int32.toInt (v635 30 0 12) ∧ ¬ Int32.toInt 1 = 0)) := hr638
              obtain ⟨hI_v639, hr638⟩ := hr638
              have : ((v639 36 0 3).toInt = 0 ∧ (v639 36 0 4).toInt = 0) ∨ (0 < (v639 36 0 3).toInt ∧ 0 < (v639 36 0 4).toInt) := hI_v639.2.1
              have : (0 : Int) ≤ (v635 37 0 3).toInt ∧ (v635 37 0 3).toInt ≤ (6 : Int) := hI_v635.1 37 0 3
              have : (0 : Int) ≤ (v635 37 0 4).toInt ∧ (v635 37 0 4).toInt ≤ (4 : Int) := hI_v635.1 37 0 4
              have : (-1 : Int) ≤ (v635 30 0 8).toInt ∧ (v635 30 0 8).toInt ≤ (100 : Int) := hI_v635.1 30 0 8
              have : (1 : Int32).toInt = 1 := (by decide)
              refine ok_bind (k_X8_isWell v639 hI_v639  ) (fun r641 hr641 => ?_)
              have hr641 : (0 : Int) ≤ Int32.toInt r641 ∧ Int32.toInt r641 ≤ (1 : Int) ∧ ((Int32.toInt r641 = 0 ∧ 0 ≤ Int32.toInt (v639 30 0 8)) ∨ (Int32.toInt r641 = 1 ∧ Int32.toInt (v639 30 0 8) < 0)) := hr641
              have : (-1 : Int) ≤ (v639 30 0 8).toInt ∧ (v639 30 0 8).toInt ≤ (100 : Int) := hI_v639.1 30 0 8
              refine ok_ite _ (fun c643 => ?_) (fun c643 => ?_)
              · skip
                have ic643 := i_eq c643
                have : (0 : Int32).toInt = 0 := (by decide)
                refine ok_some ?_
                show IM v639 ∧ (Int32.toInt (v639 37 0 4) = Int32.toInt (v 37 0 4)) ∧ ((Int32.toInt (v 30 0 8) < 0 ∧ Int32.toInt (v639 37 0 3) = Int32.toInt (v 37 0 3) + 1) ∨ 0 ≤ Int32.toInt (v639 30 0 8))
                refine ⟨hI_v639, ?_⟩
                omega
              · skip
                have ic643 := i_ne c643
                have : (0 : Int32).toInt = 0 := (by decide)
                refine ok_grd _ ?_ ?_
                · skip
                  have : (8 : Int32).toInt = 8 := (by decide)
                  have : (3 : Int32).toInt = 3 := (by decide)
                  have : (0 : Int32).toInt = 0 := (by decide)
                  (first | have := sp_mulcx (3 : Int32) (0 : Int32) 0 (by decide) (by omega) | obtain ⟨k505, hk505⟩ := sp_mulc (3 : Int32) (0 : Int32) 0 (by decide))
                  (first | have := sp_addx (8 : Int32) ((3 : Int32) * 0) (by omega) | obtain ⟨k506, hk506⟩ := sp_add (8 : Int32) ((3 : Int32) * 0))
                  exact gr (by omega) (by omega)
                refine ok_let (fun v645 ev645 => ?_)
                have : (8 : Int32).toInt = 8 := (by decide)
                have : (3 : Int32).toInt = 3 := (by decide)
                have : (0 : Int32).toInt = 0 := (by decide)
                (first | have := sp_mulcx (3 : Int32) (0 : Int32) 0 (by decide) (by omega) | obtain ⟨k507, hk507⟩ := sp_mulc (3 : Int32) (0 : Int32) 0 (by decide))
                (first | have := sp_addx (8 : Int32) ((3 : Int32) * 0) (by omega) | obtain ⟨k508, hk508⟩ := sp_add (8 : Int32) ((3 : Int32) * 0))
                have hI_v645 : IM v645 := by
                  rw [ev645]
                  first | exact hI_v639.um7 (by omega) (by omega) | exact hI_v639.u07
                have := i_eq (show v645 30 0 8 = v639 30 0 8 by rw [ev645]; exact up3_t (by decide))
                have := i_eq (show v645 30 0 11 = v639 30 0 11 by rw [ev645]; exact up3_t (by decide))
                have := i_eq (show v645 30 0 12 = v639 30 0 12 by rw [ev645]; exact up3_t (by decide))
                (try have := i_eq (show v645 37 0 3 = v639 37 0 3 by rw [ev645]; exact up3_j (tcne (by omega) (by omega))))
                (try have := i_eq (show v645 37 0 4 = v639 37 0 4 by rw [ev645]; exact up3_j (tcne (by omega) (by omega))))
                have : ((v645 36 0 3).toInt = 0 ∧ (v645 36 0 4).toInt = 0) ∨ (0 < (v645 36 0 3).toInt ∧ 0 < (v645 36 0 4).toInt) := hI_v645.2.1
                refine ok_grd _ ?_ ?_
                · skip
                  have : (8 : Int32).toInt = 8 := (by decide)
                  have : (3 : Int32).toInt = 3 := (by decide)
                  have : (0 : Int32).toInt = 0 := (by decide)
                  (first | have := sp_mulcx (3 : Int32) (0 : Int32) 0 (by decide) (by omega) | obtain ⟨k509, hk509⟩ := sp_mulc (3 : Int32) (0 : Int32) 0 (by decide))
                  (first | have := sp_addx (8 : Int32) ((3 : Int32) * 0) (by omega) | obtain ⟨k510, hk510⟩ := sp_add (8 : Int32) ((3 : Int32) * 0))
                  have : (1 : Int32).toInt = 1 := (by decide)
                  (first | have := sp_addx ((8 : Int32) + ((3 : Int32) * 0)) (1 : Int32) (by omega) | obtain ⟨k511, hk511⟩ := sp_add ((8 : Int32) + ((3 : Int32) * 0)) (1 : Int32))
                  exact gr (by omega) (by omega)
                refine ok_let (fun v647 ev647 => ?_)
                have : (8 : Int32).toInt = 8 := (by decide)
                have : (3 : Int32).toInt = 3 := (by decide)
                have : (0 : Int32).toInt = 0 := (by decide)
                (first | have := sp_mulcx (3 : Int32) (0 : Int32) 0 (by decide) (by omega) | obtain ⟨k512, hk512⟩ := sp_mulc (3 : Int32) (0 : Int32) 0 (by decide))
                (first | have := sp_addx (8 : Int32) ((3 : Int32) * 0) (by omega) | obtain ⟨k513, hk513⟩ := sp_add (8 : Int32) ((3 : Int32) * 0))
                have : (1 : Int32).toInt = 1 := (by decide)
                (first | have := sp_addx ((8 : Int32) + ((3 : Int32) * 0)) (1 : Int32) (by omega) | obtain ⟨k514, hk514⟩ := sp_add ((8 : Int32) + ((3 : Int32) * 0)) (1 : Int32))
                have hI_v647 : IM v647 := by
                  rw [ev647]
                  first | exact hI_v645.um7 (by omega) (by omega) | exact hI_v645.u07
                have := i_eq (show v647 30 0 8 = v645 30 0 8 by rw [ev647]; exact up3_t (by decide))
                have := i_eq (show v647 30 0 11 = v645 30 0 11 by rw [ev647]; exact up3_t (by decide))
                have := i_eq (show v647 30 0 12 = v645 30 0 12 by rw [ev647]; exact up3_t (by decide))
                (try have := i_eq (show v647 37 0 3 = v645 37 0 3 by rw [ev647]; exact up3_j (tcne (by omega) (by omega))))
                (try have := i_eq (show v647 37 0 4 = v645 37 0 4 by rw [ev647]; exact up3_j (tcne (by omega) (by omega))))
                have : ((v647 36 0 3).toInt = 0 ∧ (v647 36 0 4).toInt = 0) ∨ (0 < (v647 36 0 3).toInt ∧ 0 < (v647 36 0 4).toInt) := hI_v647.2.1
                refine ok_grd _ ?_ ?_
                · skip
                  have : (8 : Int32).toInt = 8 := (by decide)
                  have : (3 : Int32).toInt = 3 := (by decide)
                  have : (0 : Int32).toInt = 0 := (by decide)
                  (first | have := sp_mulcx (3 : Int32) (0 : Int32) 0 (by decide) (by omega) | obtain ⟨k515, hk515⟩ := sp_mulc (3 : Int32) (0 : Int32) 0 (by decide))
                  (first | have := sp_addx (8 : Int32) ((3 : Int32) * 0) (by omega) | obtain ⟨k516, hk516⟩ := sp_add (8 : Int32) ((3 : Int32) * 0))
                  have : (2 : Int32).toInt = 2 := (by decide)
                  (first | have := sp_addx ((8 : Int32) + ((3 : Int32) * 0)) (2 : Int32) (by omega) | obtain ⟨k517, hk517⟩ := sp_add ((8 : Int32) + ((3 : Int32) * 0)) (2 : Int32))
                  exact gr (by omega) (by omega)
                refine ok_let (fun v649 ev649 => ?_)
                have : (8 : Int32).toInt = 8 := (by decide)
                have : (3 : Int32).toInt = 3 := (by decide)
                have : (0 : Int32).toInt = 0 := (by decide)
                (first | have := sp_mulcx (3 : Int32) (0 : Int32) 0 (by decide) (by omega) | obtain ⟨k518, hk518⟩ := sp_mulc (3 : Int32) (0 : Int32) 0 (by decide))
                (first | have := sp_addx (8 : Int32) ((3 : Int32) * 0) (by omega) | obtain ⟨k519, hk519⟩ := sp_add (8 : Int32) ((3 : Int32) * 0))
                have : (2 : Int32).toInt = 2 := (by decide)
                (first | have := sp_addx ((8 : Int32) + ((3 : Int32) * 0)) (2 : Int32) (by omega) | obtain ⟨k520, hk520⟩ := sp_add ((8 : Int32) + ((3 : Int32) * 0)) (2 : Int32))
                have : (97 : Int32).toInt = 97 := (by decide)
                have := i_bd r634
                (first | have := sp_subx r634 (97 : Int32) (by omega) | obtain ⟨k521, hk521⟩ := sp_sub r634 (97 : Int32))
                have hI_v649 : IM v649 := by
                  rw [ev649]
                  first | exact hI_v647.um7 (by omega) (by omega) | exact hI_v647.u07
                have := i_eq (show v649 30 0 8 = v647 30 0 8 by rw [ev649]; exact up3_t (by decide))
                have := i_eq (show v649 30 0 11 = v647 30 0 11 by rw [ev649]; exact up3_t (by decide))
                have := i_eq (show v649 30 0 12 = v647 30 0 12 by rw [ev649]; exact up3_t (by decide))
                (try have := i_eq (show v649 37 0 3 = v647 37 0 3 by rw [ev649]; exact up3_j (tcne (by omega) (by omega))))
                (try have := i_eq (show v649 37 0 4 = v647 37 0 4 by rw [ev649]; exact up3_j (tcne (by omega) (by omega))))
                have : ((v649 36 0 3).toInt = 0 ∧ (v649 36 0 4).toInt = 0) ∨ (0 < (v649 36 0 3).toInt ∧ 0 < (v649 36 0 4).toInt) := hI_v649.2.1
                refine ok_let (fun v650 ev650 => ?_)
                have hI_v650 : IM v650 := by
                  rw [ev650]
                  refine hI_v649.upo (by decide) ?_
                  show (0 : Int) ≤ Int32.toInt ((v649 37 0 3) + 1) ∧ Int32.toInt ((v649 37 0 3) + 1) ≤ (6 : Int)
                  have : (0 : Int) ≤ (v649 37 0 3).toInt ∧ (v649 37 0 3).toInt ≤ (6 : Int) := hI_v649.1 37 0 3
                  have : (1 : Int32).toInt = 1 := (by decide)
                  have := i_bd (v649 37 0 3)
                  (first | have := sp_addx (v649 37 0 3) (1 : Int32) (by omega) | obtain ⟨k522, hk522⟩ := sp_add (v649 37 0 3) (1 : Int32))
                  omega
                have := i_eq (show v650 30 0 8 = v649 30 0 8 by rw [ev650]; exact up3_t (by decide))
                have := i_eq (show v650 30 0 11 = v649 30 0 11 by rw [ev650]; exact up3_t (by decide))
                have := i_eq (show v650 30 0 12 = v649 30 0 12 by rw [ev650]; exact up3_t (by decide))
                have := i_eq (show v650 37 0 3 = ((v649 37 0 3) + 1) by rw [ev650]; exact up3_s)
                have : (0 : Int) ≤ (v649 37 0 3).toInt ∧ (v649 37 0 3).toInt ≤ (6 : Int) := hI_v649.1 37 0 3
                have : (1 : Int32).toInt = 1 := (by decide)
                have := i_bd (v649 37 0 3)
                (first | have := sp_addx (v649 37 0 3) (1 : Int32) (by omega) | obtain ⟨k523, hk523⟩ := sp_add (v649 37 0 3) (1 : Int32))
                have := i_eq (show v650 37 0 4 = v649 37 0 4 by rw [ev650]; exact up3_j (by decide))
                have : ((v650 36 0 3).toInt = 0 ∧ (v650 36 0 4).toInt = 0) ∨ (0 < (v650 36 0 3).toInt ∧ 0 < (v650 36 0 4).toInt) := hI_v650.2.1
                refine ok_some ?_
                show IM v650 ∧ (Int32.toInt (v650 37 0 4) = Int32.toInt (v 37 0 4)) ∧ ((Int32.toInt (v 30 0 8) < 0 ∧ Int32.toInt (v650 37 0 3) = Int32.toInt (v 37 0 3) + 1) ∨ 0 ≤ Int32.toInt (v650 30 0 8))
                refine ⟨hI_v650, ?_⟩
                omega
            · skip
              have ic636 := i_ne c636
              have : (0 : Int) ≤ (v635 30 0 11).toInt ∧ (v635 30 0 11).toInt ≤ (5 : Int) := hI_v635.1 30 0 11
              have : (4 : Int32).toInt = 4 := (by decide)
              refine ok_kb2 (k_X8_takes v635 hI_v635 0 1 ) (fun r652 v653 hr652 => ?_)
              have hr652 : IM v653 ∧ (Int32.toInt (v653 37 0 3) = Int32.toInt (v635 37 0 3)) ∧ (Int32.toInt (v653 37 0 4) = Int32.toInt (v635 37 0 4)) ∧ (Int32.toInt (v635 30 0 8) < 0 ∨ 0 ≤ Int32.toInt (v653 30 0 8)) ∧ (¬ Int32.toInt 0 = 0 ∨ 0 ≤ Int32.toInt (v653 30 0 8)) ∧ (Int32.toInt r652 = 0 ∨ (Int32.toInt r652 = Int32.toInt (v635 30 0 12) ∧ ¬ Int32.toInt 0 = 0)) := hr652
              obtain ⟨hI_v653, hr652⟩ := hr652
              have : ((v653 36 0 3).toInt = 0 ∧ (v653 36 0 4).toInt = 0) ∨ (0 < (v653 36 0 3).toInt ∧ 0 < (v653 36 0 4).toInt) := hI_v653.2.1
              have : (0 : Int) ≤ (v635 37 0 3).toInt ∧ (v635 37 0 3).toInt ≤ (6 : Int) := hI_v635.1 37 0 3
              have : (0 : Int) ≤ (v635 37 0 4).toInt ∧ (v635 37 0 4).toInt ≤ (4 : Int) := hI_v635.1 37 0 4
              have : (-1 : Int) ≤ (v635 30 0 8).toInt ∧ (v635 30 0 8).toInt ≤ (100 : Int) := hI_v635.1 30 0 8
              have : (0 : Int32).toInt = 0 := (by decide)
              have : (1 : Int32).toInt = 1 := (by decide)
              refine ok_bind (k_X8_isWell v653 hI_v653  ) (fun r655 hr655 => ?_)
              have hr655 : (0 : Int) ≤ Int32.toInt r655 ∧ Int32.toInt r655 ≤ (1 : Int) ∧ ((Int32.toInt r655 = 0 ∧ 0 ≤ Int32.toInt (v653 30 0 8)) ∨ (Int32.toInt r655 = 1 ∧ Int32.toInt (v653 30 0 8) < 0)) := hr655
              have : (-1 : Int) ≤ (v653 30 0 8).toInt ∧ (v653 30 0 8).toInt ≤ (100 : Int) := hI_v653.1 30 0 8
              refine ok_ite _ (fun c657 => ?_) (fun c657 => ?_)
              · skip
                have ic657 := i_eq c657
                have : (0 : Int32).toInt = 0 := (by decide)
                refine ok_some ?_
                show IM v653 ∧ (Int32.toInt (v653 37 0 4) = Int32.toInt (v 37 0 4)) ∧ ((Int32.toInt (v 30 0 8) < 0 ∧ Int32.toInt (v653 37 0 3) = Int32.toInt (v 37 0 3) + 1) ∨ 0 ≤ Int32.toInt (v653 30 0 8))
                refine ⟨hI_v653, ?_⟩
                omega
              · skip
                have ic657 := i_ne c657
                have : (0 : Int32).toInt = 0 := (by decide)
                refine ok_grd _ ?_ ?_
                · skip
                  have : (8 : Int32).toInt = 8 := (by decide)
                  have : (3 : Int32).toInt = 3 := (by decide)
                  have : (0 : Int32).toInt = 0 := (by decide)
                  (first | have := sp_mulcx (3 : Int32) (0 : Int32) 0 (by decide) (by omega) | obtain ⟨k524, hk524⟩ := sp_mulc (3 : Int32) (0 : Int32) 0 (by decide))
                  (first | have := sp_addx (8 : Int32) ((3 : Int32) * 0) (by omega) | obtain ⟨k525, hk525⟩ := sp_add (8 : Int32) ((3 : Int32) * 0))
                  exact gr (by omega) (by omega)
                refine ok_let (fun v659 ev659 => ?_)
                have : (8 : Int32).toInt = 8 := (by decide)
                have : (3 : Int32).toInt = 3 := (by decide)
                have : (0 : Int32).toInt = 0 := (by decide)
                (first | have := sp_mulcx (3 : Int32) (0 : Int32) 0 (by decide) (by omega) | obtain ⟨k526, hk526⟩ := sp_mulc (3 : Int32) (0 : Int32) 0 (by decide))
                (first | have := sp_addx (8 : Int32) ((3 : Int32) * 0) (by omega) | obtain ⟨k527, hk527⟩ := sp_add (8 : Int32) ((3 : Int32) * 0))
                have hI_v659 : IM v659 := by
                  rw [ev659]
                  first | exact hI_v653.um7 (by omega) (by omega) | exact hI_v653.u07
                have := i_eq (show v659 30 0 8 = v653 30 0 8 by rw [ev659]; exact up3_t (by decide))
                have := i_eq (show v659 30 0 11 = v653 30 0 11 by rw [ev659]; exact up3_t (by decide))
                have := i_eq (show v659 30 0 12 = v653 30 0 12 by rw [ev659]; exact up3_t (by decide))
                (try have := i_eq (show v659 37 0 3 = v653 37 0 3 by rw [ev659]; exact up3_j (tcne (by omega) (by omega))))
                (try have := i_eq (show v659 37 0 4 = v653 37 0 4 by rw [ev659]; exact up3_j (tcne (by omega) (by omega))))
                have : ((v659 36 0 3).toInt = 0 ∧ (v659 36 0 4).toInt = 0) ∨ (0 < (v659 36 0 3).toInt ∧ 0 < (v659 36 0 4).toInt) := hI_v659.2.1
                refine ok_grd _ ?_ ?_
                · skip
                  have : (8 : Int32).toInt = 8 := (by decide)
                  have : (3 : Int32).toInt = 3 := (by decide)
                  have : (0 : Int32).toInt = 0 := (by decide)
                  (first | have := sp_mulcx (3 : Int32) (0 : Int32) 0 (by decide) (by omega) | obtain ⟨k528, hk528⟩ := sp_mulc (3 : Int32) (0 : Int32) 0 (by decide))
                  (first | have := sp_addx (8 : Int32) ((3 : Int32) * 0) (by omega) | obtain ⟨k529, hk529⟩ := sp_add (8 : Int32) ((3 : Int32) * 0))
                  have : (1 : Int32).toInt = 1 := (by decide)
                  (first | have := sp_addx ((8 : Int32) + ((3 : Int32) * 0)) (1 : Int32) (by omega) | obtain ⟨k530, hk530⟩ := sp_add ((8 : Int32) + ((3 : Int32) * 0)) (1 : Int32))
                  exact gr (by omega) (by omega)
                refine ok_let (fun v661 ev661 => ?_)
                have : (8 : Int32).toInt = 8 := (by decide)
                have : (3 : Int32).toInt = 3 := (by decide)
                have : (0 : Int32).toInt = 0 := (by decide)
                (first | have := sp_mulcx (3 : Int32) (0 : Int32) 0 (by decide) (by omega) | obtain ⟨k531, hk531⟩ := sp_mulc (3 : Int32) (0 : Int32) 0 (by decide))
                (first | have := sp_addx (8 : Int32) ((3 : Int32) * 0) (by omega) | obtain ⟨k532, hk532⟩ := sp_add (8 : Int32) ((3 : Int32) * 0))
                have : (1 : Int32).toInt = 1 := (by decide)
                (first | have := sp_addx ((8 : Int32) + ((3 : Int32) * 0)) (1 : Int32) (by omega) | obtain ⟨k533, hk533⟩ := sp_add ((8 : Int32) + ((3 : Int32) * 0)) (1 : Int32))
                have hI_v661 : IM v661 := by
                  rw [ev661]
                  first | exact hI_v659.um7 (by omega) (by omega) | exact hI_v659.u07
                have := i_eq (show v661 30 0 8 = v659 30 0 8 by rw [ev661]; exact up3_t (by decide))
                have := i_eq (show v661 30 0 11 = v659 30 0 11 by rw [ev661]; exact up3_t (by decide))
                have := i_eq (show v661 30 0 12 = v659 30 0 12 by rw [ev661]; exact up3_t (by decide))
                (try have := i_eq (show v661 37 0 3 = v659 37 0 3 by rw [ev661]; exact up3_j (tcne (by omega) (by omega))))
                (try have := i_eq (show v661 37 0 4 = v659 37 0 4 by rw [ev661]; exact up3_j (tcne (by omega) (by omega))))
                have : ((v661 36 0 3).toInt = 0 ∧ (v661 36 0 4).toInt = 0) ∨ (0 < (v661 36 0 3).toInt ∧ 0 < (v661 36 0 4).toInt) := hI_v661.2.1
                refine ok_grd _ ?_ ?_
                · skip
                  have : (8 : Int32).toInt = 8 := (by decide)
                  have : (3 : Int32).toInt = 3 := (by decide)
                  have : (0 : Int32).toInt = 0 := (by decide)
                  (first | have := sp_mulcx (3 : Int32) (0 : Int32) 0 (by decide) (by omega) | obtain ⟨k534, hk534⟩ := sp_mulc (3 : Int32) (0 : Int32) 0 (by decide))
                  (first | have := sp_addx (8 : Int32) ((3 : Int32) * 0) (by omega) | obtain ⟨k535, hk535⟩ := sp_add (8 : Int32) ((3 : Int32) * 0))
                  have : (2 : Int32).toInt = 2 := (by decide)
                  (first | have := sp_addx ((8 : Int32) + ((3 : Int32) * 0)) (2 : Int32) (by omega) | obtain ⟨k536, hk536⟩ := sp_add ((8 : Int32) + ((3 : Int32) * 0)) (2 : Int32))
                  exact gr (by omega) (by omega)
                refine ok_let (fun v663 ev663 => ?_)
                have : (8 : Int32).toInt = 8 := (by decide)
                have : (3 : Int32).toInt = 3 := (by decide)
                have : (0 : Int32).toInt = 0 := (by decide)
                (first | have := sp_mulcx (3 : Int32) (0 : Int32) 0 (by decide) (by omega) | obtain ⟨k537, hk537⟩ := sp_mulc (3 : Int32) (0 : Int32) 0 (by decide))
                (first | have := sp_addx (8 : Int32) ((3 : Int32) * 0) (by omega) | obtain ⟨k538, hk538⟩ := sp_add (8 : Int32) ((3 : Int32) * 0))
                have : (2 : Int32).toInt = 2 := (by decide)
                (first | have := sp_addx ((8 : Int32) + ((3 : Int32) * 0)) (2 : Int32) (by omega) | obtain ⟨k539, hk539⟩ := sp_add ((8 : Int32) + ((3 : Int32) * 0)) (2 : Int32))
                have : (97 : Int32).toInt = 97 := (by decide)
                have := i_bd r634
                (first | have := sp_subx r634 (97 : Int32) (by omega) | obtain ⟨k540, hk540⟩ := sp_sub r634 (97 : Int32))
                have hI_v663 : IM v663 := by
                  rw [ev663]
                  first | exact hI_v661.um7 (by omega) (by omega) | exact hI_v661.u07
                have := i_eq (show v663 30 0 8 = v661 30 0 8 by rw [ev663]; exact up3_t (by decide))
                have := i_eq (show v663 30 0 11 = v661 30 0 11 by rw [ev663]; exact up3_t (by decide))
                have := i_eq (show v663 30 0 12 = v661 30 0 12 by rw [ev663]; exact up3_t (by decide))
                (try have := i_eq (show v663 37 0 3 = v661 37 0 3 by rw [ev663]; exact up3_j (tcne (by omega) (by omega))))
                (try have := i_eq (show v663 37 0 4 = v661 37 0 4 by rw [ev663]; exact up3_j (tcne (by omega) (by omega))))
                have : ((v663 36 0 3).toInt = 0 ∧ (v663 36 0 4).toInt = 0) ∨ (0 < (v663 36 0 3).toInt ∧ 0 < (v663 36 0 4).toInt) := hI_v663.2.1
                refine ok_let (fun v664 ev664 => ?_)
                have hI_v664 : IM v664 := by
                  rw [ev664]
                  refine hI_v663.upo (by decide) ?_
                  show (0 : Int) ≤ Int32.toInt ((v663 37 0 3) + 1) ∧ Int32.toInt ((v663 37 0 3) + 1) ≤ (6 : Int)
                  have : (0 : Int) ≤ (v663 37 0 3).toInt ∧ (v663 37 0 3).toInt ≤ (6 : Int) := hI_v663.1 37 0 3
                  have : (1 : Int32).toInt = 1 := (by decide)
                  have := i_bd (v663 37 0 3)
                  (first | have := sp_addx (v663 37 0 3) (1 : Int32) (by omega) | obtain ⟨k541, hk541⟩ := sp_add (v663 37 0 3) (1 : Int32))
                  omega
                have := i_eq (show v664 30 0 8 = v663 30 0 8 by rw [ev664]; exact up3_t (by decide))
                have := i_eq (show v664 30 0 11 = v663 30 0 11 by rw [ev664]; exact up3_t (by decide))
                have := i_eq (show v664 30 0 12 = v663 30 0 12 by rw [ev664]; exact up3_t (by decide))
                have := i_eq (show v664 37 0 3 = ((v663 37 0 3) + 1) by rw [ev664]; exact up3_s)
                have : (0 : Int) ≤ (v663 37 0 3).toInt ∧ (v663 37 0 3).toInt ≤ (6 : Int) := hI_v663.1 37 0 3
                have : (1 : Int32).toInt = 1 := (by decide)
                have := i_bd (v663 37 0 3)
                (first | have := sp_addx (v663 37 0 3) (1 : Int32) (by omega) | obtain ⟨k542, hk542⟩ := sp_add (v663 37 0 3) (1 : Int32))
                have := i_eq (show v664 37 0 4 = v663 37 0 4 by rw [ev664]; exact up3_j (by decide))
                have : ((v664 36 0 3).toInt = 0 ∧ (v664 36 0 4).toInt = 0) ∨ (0 < (v664 36 0 3).toInt ∧ 0 < (v664 36 0 4).toInt) := hI_v664.2.1
                refine ok_some ?_
                show IM v664 ∧ (Int32.toInt (v664 37 0 4) = Int32.toInt (v 37 0 4)) ∧ ((Int32.toInt (v 30 0 8) < 0 ∧ Int32.toInt (v664 37 0 3) = Int32.toInt (v 37 0 3) + 1) ∨ 0 ≤ Int32.toInt (v664 30 0 8))
                refine ⟨hI_v664, ?_⟩
                omega
    · skip
      have ic446 := i_nle c446
      have : (0 : Int) ≤ (v445 37 0 3).toInt ∧ (v445 37 0 3).toInt ≤ (6 : Int) := hI_v445.1 37 0 3
      have : (6 : Int32).toInt = 6 := (by decide)
      refine ok_let (fun x665 ex665 => ?_)
      have : (8 : Int32).toInt = 8 := (by decide)
      have : (3 : Int32).toInt = 3 := (by decide)
      have : (0 : Int) ≤ (v445 37 0 3).toInt ∧ (v445 37 0 3).toInt ≤ (6 : Int) := hI_v445.1 37 0 3
      (first | have := sp_cmulx (3 : Int32) (v445 37 0 3) 3 (by decide) (by omega) | obtain ⟨k543, hk543⟩ := sp_cmul (3 : Int32) (v445 37 0 3) 3 (by decide))
      (first | have := sp_addx (8 : Int32) ((3 : Int32) * (v445 37 0 3)) (by omega) | obtain ⟨k544, hk544⟩ := sp_add (8 : Int32) ((3 : Int32) * (v445 37 0 3)))
      have := i_eq ex665
      refine ok_kb2 (k_X8_letterOf v445 hI_v445  ) (fun r667 v668 hr667 => ?_)
      have hr667 : IM v668 ∧ (Int32.toInt (v668 37 0 3) = Int32.toInt (v445 37 0 3)) ∧ (Int32.toInt (v668 37 0 4) = Int32.toInt (v445 37 0 4)) ∧ (Int32.toInt (v445 30 0 8) < 0 ∨ 0 ≤ Int32.toInt (v668 30 0 8)) := hr667
      obtain ⟨hI_v668, hr667⟩ := hr667
      have : ((v668 36 0 3).toInt = 0 ∧ (v668 36 0 4).toInt = 0) ∨ (0 < (v668 36 0 3).toInt ∧ 0 < (v668 36 0 4).toInt) := hI_v668.2.1
      have : (0 : Int) ≤ (v445 37 0 3).toInt ∧ (v445 37 0 3).toInt ≤ (6 : Int) := hI_v445.1 37 0 3
      have : (0 : Int) ≤ (v445 37 0 4).toInt ∧ (v445 37 0 4).toInt ≤ (4 : Int) := hI_v445.1 37 0 4
      have : (-1 : Int) ≤ (v445 30 0 8).toInt ∧ (v445 30 0 8).toInt ≤ (100 : Int) := hI_v445.1 30 0 8
      refine ok_kb2 (k_X8_letterOf v668 hI_v668  ) (fun r670 v671 hr670 => ?_)
      have hr670 : IM v671 ∧ (Int32.toInt (v671 37 0 3) = Int32.toInt (v668 37 0 3)) ∧ (Int32.toInt (v671 37 0 4) = Int32.toInt (v668 37 0 4)) ∧ (Int32.toInt (v668 30 0 8) < 0 ∨ 0 ≤ Int32.toInt (v671 30 0 8)) := hr670
      obtain ⟨hI_v671, hr670⟩ := hr670
      have : ((v671 36 0 3).toInt = 0 ∧ (v671 36 0 4).toInt = 0) ∨ (0 < (v671 36 0 3).toInt ∧ 0 < (v671 36 0 4).toInt) := hI_v671.2.1
      have : (0 : Int) ≤ (v668 37 0 3).toInt ∧ (v668 37 0 3).toInt ≤ (6 : Int) := hI_v668.1 37 0 3
      have : (0 : Int) ≤ (v668 37 0 4).toInt ∧ (v668 37 0 4).toInt ≤ (4 : Int) := hI_v668.1 37 0 4
      have : (-1 : Int) ≤ (v668 30 0 8).toInt ∧ (v668 30 0 8).toInt ≤ (100 : Int) := hI_v668.1 30 0 8
      refine ok_bind (k_X8_isWell v671 hI_v671  ) (fun r673 hr673 => ?_)
      have hr673 : (0 : Int) ≤ Int32.toInt r673 ∧ Int32.toInt r673 ≤ (1 : Int) ∧ ((Int32.toInt r673 = 0 ∧ 0 ≤ Int32.toInt (v671 30 0 8)) ∨ (Int32.toInt r673 = 1 ∧ Int32.toInt (v671 30 0 8) < 0)) := hr673
      have : (-1 : Int) ≤ (v671 30 0 8).toInt ∧ (v671 30 0 8).toInt ≤ (100 : Int) := hI_v671.1 30 0 8
      refine ok_ite _ (fun c675 => ?_) (fun c675 => ?_)
      · skip
        have ic675 := i_eq c675
        have : (0 : Int32).toInt = 0 := (by decide)
        refine ok_bind (k_X8_isTold v671 hI_v671 r667 r670 ((v671 30 0 12) - 97) ) (fun r677 hr677 => ?_)
        have hr677 : (0 : Int) ≤ Int32.toInt r677 ∧ Int32.toInt r677 ≤ (1 : Int) := hr677
        refine ok_ite _ (fun c679 => ?_) (fun c679 => ?_)
        · skip
          have ic679 := i_eq c679
          have : (0 : Int32).toInt = 0 := (by decide)
          refine ok_kb2 (k_X8_takes v671 hI_v671 1 2 ) (fun r681 v682 hr681 => ?_)
          have hr681 : IM v682 ∧ (Int32.toInt (v682 37 0 3) = Int32.toInt (v671 37 0 3)) ∧ (Int32.toInt (v682 37 0 4) = Int32.toInt (v671 37 0 4)) ∧ (Int32.toInt (v671 30 0 8) < 0 ∨ 0 ≤ Int32.toInt (v682 30 0 8)) ∧ (¬ Int32.toInt 1 = 0 ∨ 0 ≤ Int32.toInt (v682 30 0 8)) ∧ (Int32.toInt r681 = 0 ∨ (Int32.toInt r681 = Int32.toInt (v671 30 0 12) ∧ ¬ Int32.toInt 1 = 0)) := hr681
          obtain ⟨hI_v682, hr681⟩ := hr681
          have : ((v682 36 0 3).toInt = 0 ∧ (v682 36 0 4).toInt = 0) ∨ (0 < (v682 36 0 3).toInt ∧ 0 < (v682 36 0 4).toInt) := hI_v682.2.1
          have : (0 : Int) ≤ (v671 37 0 3).toInt ∧ (v671 37 0 3).toInt ≤ (6 : Int) := hI_v671.1 37 0 3
          have : (0 : Int) ≤ (v671 37 0 4).toInt ∧ (v671 37 0 4).toInt ≤ (4 : Int) := hI_v671.1 37 0 4
          have : (-1 : Int) ≤ (v671 30 0 8).toInt ∧ (v671 30 0 8).toInt ≤ (100 : Int) := hI_v671.1 30 0 8
          have : (1 : Int32).toInt = 1 := (by decide)
          have : (2 : Int32).toInt = 2 := (by decide)
          refine ok_ite _ (fun c683 => ?_) (fun c683 => ?_)
          · skip
            have ic683 := i_eq c683
            have : (0 : Int) ≤ (v682 30 0 11).toInt ∧ (v682 30 0 11).toInt ≤ (5 : Int) := hI_v682.1 30 0 11
            have : (4 : Int32).toInt = 4 := (by decide)
            refine ok_kb2 (k_X8_takes v682 hI_v682 1 1 ) (fun r685 v686 hr685 => ?_)
            have hr685 : IM v686 ∧ (Int32.toInt (v686 37 0 3) = Int32.toInt (v682 37 0 3)) ∧ (Int32.toInt (v686 37 0 4) = Int32.toInt (v682 37 0 4)) ∧ (Int32.toInt (v682 30 0 8) < 0 ∨ 0 ≤ Int32.toInt (v686 30 0 8)) ∧ (¬ Int32.toInt 1 = 0 ∨ 0 ≤ Int32.toInt (v686 30 0 8)) ∧ (Int32.toInt r685 = 0 ∨ (Int32.toInt r685 = Int32.toInt (v682 30 0 12) ∧ ¬ Int32.toInt 1 = 0)) := hr685
            obtain ⟨hI_v686, hr685⟩ := hr685
            have : ((v686 36 0 3).toInt = 0 ∧ (v686 36 0 4).toInt = 0) ∨ (0 < (v686 36 0 3).toInt ∧ 0 < (v686 36 0 4).toInt) := hI_v686.2.1
            have : (0 : Int) ≤ (v682 37 0 3).toInt ∧ (v682 37 0 3).toInt ≤ (6 : Int) := hI_v682.1 37 0 3
            have : (0 : Int) ≤ (v682 37 0 4).toInt ∧ (v682 37 0 4).toInt ≤ (4 : Int) := hI_v682.1 37 0 4
            have : (-1 : Int) ≤ (v682 30 0 8).toInt ∧ (v682 30 0 8).toInt ≤ (100 : Int) := hI_v682.1 30 0 8
            have : (1 : Int32).toInt = 1 := (by decide)
            refine ok_bind (k_X8_isWell v686 hI_v686  ) (fun r688 hr688 => ?_)
            have hr688 : (0 : Int) ≤ Int32.toInt r688 ∧ Int32.toInt r688 ≤ (1 : Int) ∧ ((Int32.toInt r688 = 0 ∧ 0 ≤ Int32.toInt (v686 30 0 8)) ∨ (Int32.toInt r688 = 1 ∧ Int32.toInt (v686 30 0 8) < 0)) := hr688
            have : (-1 : Int) ≤ (v686 30 0 8).toInt ∧ (v686 30 0 8).toInt ≤ (100 : Int) := hI_v686.1 30 0 8
            refine ok_ite _ (fun c690 => ?_) (fun c690 => ?_)
            · skip
              have ic690 := i_eq c690
              have : (0 : Int32).toInt = 0 := (by decide)
              refine ok_some ?_
              show IM v686 ∧ (Int32.toInt (v686 37 0 4) = Int32.toInt (v 37 0 4)) ∧ ((Int32.toInt (v 30 0 8) < 0 ∧ Int32.toInt (v686 37 0 3) = Int32.toInt (v 37 0 3) + 1) ∨ 0 ≤ Int32.toInt (v686 30 0 8))
              refine ⟨hI_v686, ?_⟩
              omega
            · skip
              have ic690 := i_ne c690
              have : (0 : Int32).toInt = 0 := (by decide)
              refine ok_grd _ ?_ ?_
              · skip
                exact gr (by omega) (by omega)
              refine ok_let (fun v692 ev692 => ?_)
              have hI_v692 : IM v692 := by
                rw [ev692]
                first | exact hI_v686.um7 (by omega) (by omega) | exact hI_v686.u07
              have := i_eq (show v692 30 0 8 = v686 30 0 8 by rw [ev692]; exact up3_t (by decide))
              have := i_eq (show v692 30 0 11 = v686 30 0 11 by rw [ev692]; exact up3_t (by decide))
              have := i_eq (show v692 30 0 12 = v686 30 0 12 by rw [ev692]; exact up3_t (by decide))
              (try have := i_eq (show v692 37 0 3 = v686 37 0 3 by rw [ev692]; exact up3_j (tcne (by omega) (by omega))))
              (try have := i_eq (show v692 37 0 4 = v686 37 0 4 by rw [ev692]; exact up3_j (tcne (by omega) (by omega))))
              have : ((v692 36 0 3).toInt = 0 ∧ (v692 36 0 4).toInt = 0) ∨ (0 < (v692 36 0 3).toInt ∧ 0 < (v692 36 0 4).toInt) := hI_v692.2.1
              refine ok_grd _ ?_ ?_
              · skip
                have : (1 : Int32).toInt = 1 := (by decide)
                have := i_bd x665
                (first | have := sp_addx x665 (1 : Int32) (by omega) | obtain ⟨k545, hk545⟩ := sp_add x665 (1 : Int32))
                exact gr (by omega) (by omega)
              refine ok_let (fun v694 ev694 => ?_)
              have : (1 : Int32).toInt = 1 := (by decide)
              have := i_bd x665
              (first | have := sp_addx x665 (1 : Int32) (by omega) | obtain ⟨k546, hk546⟩ := sp_add x665 (1 : Int32))
              have hI_v694 : IM v694 := by
                rw [ev694]
                first | exact hI_v692.um7 (by omega) (by omega) | exact hI_v692.u07
              have := i_eq (show v694 30 0 8 = v692 30 0 8 by rw [ev694]; exact up3_t (by decide))
              have := i_eq (show v694 30 0 11 = v692 30 0 11 by rw [ev694]; exact up3_t (by decide))
              have := i_eq (show v694 30 0 12 = v692 30 0 12 by rw [ev694]; exact up3_t (by decide))
              (try have := i_eq (show v694 37 0 3 = v692 37 0 3 by rw [ev694]; exact up3_j (tcne (by omega) (by omega))))
              (try have := i_eq (show v694 37 0 4 = v692 37 0 4 by rw [ev694]; exact up3_j (tcne (by omega) (by omega))))
              have : ((v694 36 0 3).toInt = 0 ∧ (v694 36 0 4).toInt = 0) ∨ (0 < (v694 36 0 3).toInt ∧ 0 < (v694 36 0 4).toInt) := hI_v694.2.1
              refine ok_grd _ ?_ ?_
              · skip
                have : (2 : Int32).toInt = 2 := (by decide)
                have := i_bd x665
                (first | have := sp_addx x665 (2 : Int32) (by omega) | obtain ⟨k547, hk547⟩ := sp_add x665 (2 : Int32))
                exact gr (by omega) (by omega)
              refine ok_let (fun v696 ev696 => ?_)
              have : (2 : Int32).toInt = 2 := (by decide)
              have := i_bd x665
              (first | have := sp_addx x665 (2 : Int32) (by omega) | obtain ⟨k548, hk548⟩ := sp_add x665 (2 : Int32))
              have : (97 : Int32).toInt = 97 := (by decide)
              have := i_bd r681
              (first | have := sp_subx r681 (97 : Int32) (by omega) | obtain ⟨k549, hk549⟩ := sp_sub r681 (97 : Int32))
              have hI_v696 : IM v696 := by
                rw [ev696]
                first | exact hI_v694.um7 (by omega) (by omega) | exact hI_v694.u07
              have := i_eq (show v696 30 0 8 = v694 30 0 8 by rw [ev696]; exact up3_t (by decide))
              have := i_eq (show v696 30 0 11 = v694 30 0 11 by rw [ev696]; exact up3_t (by decide))
              have := i_eq (show v696 30 0 12 = v694 30 0 12 by rw [ev696]; exact up3_t (by decide))
              (try have := i_eq (show v696 37 0 3 = v694 37 0 3 by rw [ev696]; exact up3_j (tcne (by omega) (by omega))))
              (try have := i_eq (show v696 37 0 4 = v694 37 0 4 by rw [ev696]; exact up3_j (tcne (by omega) (by omega))))
              have : ((v696 36 0 3).toInt = 0 ∧ (v696 36 0 4).toInt = 0) ∨ (0 < (v696 36 0 3).toInt ∧ 0 < (v696 36 0 4).toInt) := hI_v696.2.1
              refine ok_let (fun v697 ev697 => ?_)
              have hI_v697 : IM v697 := by
                rw [ev697]
                refine hI_v696.upo (by decide) ?_
                show (0 : Int) ≤ Int32.toInt ((v696 37 0 3) + 1) ∧ Int32.toInt ((v696 37 0 3) + 1) ≤ (6 : Int)
                have : (0 : Int) ≤ (v696 37 0 3).toInt ∧ (v696 37 0 3).toInt ≤ (6 : Int) := hI_v696.1 37 0 3
                have : (1 : Int32).toInt = 1 := (by decide)
                have := i_bd (v696 37 0 3)
                (first | have := sp_addx (v696 37 0 3) (1 : Int32) (by omega) | obtain ⟨k550, hk550⟩ := sp_add (v696 37 0 3) (1 : Int32))
                omega
              have := i_eq (show v697 30 0 8 = v696 30 0 8 by rw [ev697]; exact up3_t (by decide))
              have := i_eq (show v697 30 0 11 = v696 30 0 11 by rw [ev697]; exact up3_t (by decide))
              have := i_eq (show v697 30 0 12 = v696 30 0 12 by rw [ev697]; exact up3_t (by decide))
              have := i_eq (show v697 37 0 3 = ((v696 37 0 3) + 1) by rw [ev697]; exact up3_s)
              have : (0 : Int) ≤ (v696 37 0 3).toInt ∧ (v696 37 0 3).toInt ≤ (6 : Int) := hI_v696.1 37 0 3
              have : (1 : Int32).toInt = 1 := (by decide)
              have := i_bd (v696 37 0 3)
              (first | have := sp_addx (v696 37 0 3) (1 : Int32) (by omega) | obtain ⟨k551, hk551⟩ := sp_add (v696 37 0 3) (1 : Int32))
              have := i_eq (show v697 37 0 4 = v696 37 0 4 by rw [ev697]; exact up3_j (by decide))
              have : ((v697 36 0 3).toInt = 0 ∧ (v697 36 0 4).toInt = 0) ∨ (0 < (v697 36 0 3).toInt ∧ 0 < (v697 36 0 4).toInt) := hI_v697.2.1
              refine ok_some ?_
              show IM v697 ∧ (Int32.toInt (v697 37 0 4) = Int32.toInt (v 37 0 4)) ∧ ((Int32.toInt (v 30 0 8) < 0 ∧ Int32.toInt (v697 37 0 3) = Int32.toInt (v 37 0 3) + 1) ∨ 0 ≤ Int32.toInt (v697 30 0 8))
              refine ⟨hI_v697, ?_⟩
              omega
          · skip
            have ic683 := i_ne c683
            have : (0 : Int) ≤ (v682 30 0 11).toInt ∧ (v682 30 0 11).toInt ≤ (5 : Int) := hI_v682.1 30 0 11
            have : (4 : Int32).toInt = 4 := (by decide)
            refine ok_kb2 (k_X8_takes v682 hI_v682 0 1 ) (fun r699 v700 hr699 => ?_)
            have hr699 : IM v700 ∧ (Int32.toInt (v700 37 0 3) = Int32.toInt (v682 37 0 3)) ∧ (Int32.toInt (v700 37 0 4) = Int32.toInt (v682 37 0 4)) ∧ (Int32.toInt (v682 30 0 8) < 0 ∨ 0 ≤ Int32.toInt (v700 30 0 8)) ∧ (¬ Int32.toInt 0 = 0 ∨ 0 ≤ Int32.toInt (v700 30 0 8)) ∧ (Int32.toInt r699 = 0 ∨ (Int32.toInt r699 = Int32.toInt (v682 30 0 12) ∧ ¬ Int32.toInt 0 = 0)) := hr699
            obtain ⟨hI_v700, hr699⟩ := hr699
            have : ((v700 36 0 3).toInt = 0 ∧ (v700 36 0 4).toInt = 0) ∨ (0 < (v700 36 0 3).toInt ∧ 0 < (v700 36 0 4).toInt) := hI_v700.2.1
            have : (0 : Int) ≤ (v682 37 0 3).toInt ∧ (v682 37 0 3).toInt ≤ (6 : Int) := hI_v682.1 37 0 3
            have : (0 : Int) ≤ (v682 37 0 4).toInt ∧ (v682 37 0 4).toInt ≤ (4 : Int) := hI_v682.1 37 0 4
            have : (-1 : Int) ≤ (v682 30 0 8).toInt ∧ (v682 30 0 8).toInt ≤ (100 : Int) := hI_v682.1 30 0 8
            have : (0 : Int32).toInt = 0 := (by decide)
            have : (1 : Int32).toInt = 1 := (by decide)
            refine ok_bind (k_X8_isWell v700 hI_v700  ) (fun r702 hr702 => ?_)
            have hr702 : (0 : Int) ≤ Int32.toInt r702 ∧ Int32.toInt r702 ≤ (1 : Int) ∧ ((Int32.toInt r702 = 0 ∧ 0 ≤ Int32.toInt (v700 30 0 8)) ∨ (Int32.toInt r702 = 1 ∧ Int32.toInt (v700 30 0 8) < 0)) := hr702
            have : (-1 : Int) ≤ (v700 30 0 8).toInt ∧ (v700 30 0 8).toInt ≤ (100 : Int) := hI_v700.1 30 0 8
            refine ok_ite _ (fun c704 => ?_) (fun c704 => ?_)
            · skip
              have ic704 := i_eq c704
              have : (0 : Int32).toInt = 0 := (by decide)
              refine ok_some ?_
              show IM v700 ∧ (Int32.toInt (v700 37 0 4) = Int32.toInt (v 37 0 4)) ∧ ((Int32.toInt (v 30 0 8) < 0 ∧ Int32.toInt (v700 37 0 3) = Int32.toInt (v 37 0 3) + 1) ∨ 0 ≤ Int32.toInt (v700 30 0 8))
              refine ⟨hI_v700, ?_⟩
              omega
            · skip
              have ic704 := i_ne c704
              have : (0 : Int32).toInt = 0 := (by decide)
              refine ok_grd _ ?_ ?_
              · skip
                exact gr (by omega) (by omega)
              refine ok_let (fun v706 ev706 => ?_)
              have hI_v706 : IM v706 := by
                rw [ev706]
                first | exact hI_v700.um7 (by omega) (by omega) | exact hI_v700.u07
              have := i_eq (show v706 30 0 8 = v700 30 0 8 by rw [ev706]; exact up3_t (by decide))
              have := i_eq (show v706 30 0 11 = v700 30 0 11 by rw [ev706]; exact up3_t (by decide))
              have := i_eq (show v706 30 0 12 = v700 30 0 12 by rw [ev706]; exact up3_t (by decide))
              (try have := i_eq (show v706 37 0 3 = v700 37 0 3 by rw [ev706]; exact up3_j (tcne (by omega) (by omega))))
              (try have := i_eq (show v706 37 0 4 = v700 37 0 4 by rw [ev706]; exact up3_j (tcne (by omega) (by omega))))
              have : ((v706 36 0 3).toInt = 0 ∧ (v706 36 0 4).toInt = 0) ∨ (0 < (v706 36 0 3).toInt ∧ 0 < (v706 36 0 4).toInt) := hI_v706.2.1
              refine ok_grd _ ?_ ?_
              · skip
                have : (1 : Int32).toInt = 1 := (by decide)
                have := i_bd x665
                (first | have := sp_addx x665 (1 : Int32) (by omega) | obtain ⟨k552, hk552⟩ := sp_add x665 (1 : Int32))
                exact gr (by omega) (by omega)
              refine ok_let (fun v708 ev708 => ?_)
              have : (1 : Int32).toInt = 1 := (by decide)
              have := i_bd x665
              (first | have := sp_addx x665 (1 : Int32) (by omega) | obtain ⟨k553, hk553⟩ := sp_add x665 (1 : Int32))
              have hI_v708 : IM v708 := by
                rw [ev708]
                first | exact hI_v706.um7 (by omega) (by omega) | exact hI_v706.u07
              have := i_eq (show v708 30 0 8 = v706 30 0 8 by rw [ev708]; exact up3_t (by decide))
              have := i_eq (show v708 30 0 11 = v706 30 0 11 by rw [ev708]; exact up3_t (by decide))
              have := i_eq (show v708 30 0 12 = v706 30 0 12 by rw [ev708]; exact up3_t (by decide))
              (try have := i_eq (show v708 37 0 3 = v706 37 0 3 by rw [ev708]; exact up3_j (tcne (by omega) (by omega))))
              (try have := i_eq (show v708 37 0 4 = v706 37 0 4 by rw [ev708]; exact up3_j (tcne (by omega) (by omega))))
              have : ((v708 36 0 3).toInt = 0 ∧ (v708 36 0 4).toInt = 0) ∨ (0 < (v708 36 0 3).toInt ∧ 0 < (v708 36 0 4).toInt) := hI_v708.2.1
              refine ok_grd _ ?_ ?_
              · skip
                have : (2 : Int32).toInt = 2 := (by decide)
                have := i_bd x665
                (first | have := sp_addx x665 (2 : Int32) (by omega) | obtain ⟨k554, hk554⟩ := sp_add x665 (2 : Int32))
                exact gr (by omega) (by omega)
              refine ok_let (fun v710 ev710 => ?_)
              have : (2 : Int32).toInt = 2 := (by decide)
              have := i_bd x665
              (first | have := sp_addx x665 (2 : Int32) (by omega) | obtain ⟨k555, hk555⟩ := sp_add x665 (2 : Int32))
              have : (97 : Int32).toInt = 97 := (by decide)
              have := i_bd r681
              (first | have := sp_subx r681 (97 : Int32) (by omega) | obtain ⟨k556, hk556⟩ := sp_sub r681 (97 : Int32))
              have hI_v710 : IM v710 := by
                rw [ev710]
                first | exact hI_v708.um7 (by omega) (by omega) | exact hI_v708.u07
              have := i_eq (show v710 30 0 8 = v708 30 0 8 by rw [ev710]; exact up3_t (by decide))
              have := i_eq (show v710 30 0 11 = v708 30 0 11 by rw [ev710]; exact up3_t (by decide))
              have := i_eq (show v710 30 0 12 = v708 30 0 12 by rw [ev710]; exact up3_t (by decide))
              (try have := i_eq (show v710 37 0 3 = v708 37 0 3 by rw [ev710]; exact up3_j (tcne (by omega) (by omega))))
              (try have := i_eq (show v710 37 0 4 = v708 37 0 4 by rw [ev710]; exact up3_j (tcne (by omega) (by omega))))
              have : ((v710 36 0 3).toInt = 0 ∧ (v710 36 0 4).toInt = 0) ∨ (0 < (v710 36 0 3).toInt ∧ 0 < (v710 36 0 4).toInt) := hI_v710.2.1
              refine ok_let (fun v711 ev711 => ?_)
              have hI_v711 : IM v711 := by
                rw [ev711]
                refine hI_v710.upo (by decide) ?_
                show (0 : Int) ≤ Int32.toInt ((v710 37 0 3) + 1) ∧ Int32.toInt ((v710 37 0 3) + 1) ≤ (6 : Int)
                have : (0 : Int) ≤ (v710 37 0 3).toInt ∧ (v710 37 0 3).toInt ≤ (6 : Int) := hI_v710.1 37 0 3
                have : (1 : Int32).toInt = 1 := (by decide)
                have := i_bd (v710 37 0 3)
                (first | have := sp_addx (v710 37 0 3) (1 : Int32) (by omega) | obtain ⟨k557, hk557⟩ := sp_add (v710 37 0 3) (1 : Int32))
                omega
              have := i_eq (show v711 30 0 8 = v710 30 0 8 by rw [ev711]; exact up3_t (by decide))
              have := i_eq (show v711 30 0 11 = v710 30 0 11 by rw [ev711]; exact up3_t (by decide))
              have := i_eq (show v711 30 0 12 = v710 30 0 12 by rw [ev711]; exact up3_t (by decide))
              have := i_eq (show v711 37 0 3 = ((v710 37 0 3) + 1) by rw [ev711]; exact up3_s)
              have : (0 : Int) ≤ (v710 37 0 3).toInt ∧ (v710 37 0 3).toInt ≤ (6 : Int) := hI_v710.1 37 0 3
              have : (1 : Int32).toInt = 1 := (by decide)
              have := i_bd (v710 37 0 3)
              (first | have := sp_addx (v710 37 0 3) (1 : Int32) (by omega) | obtain ⟨k558, hk558⟩ := sp_add (v710 37 0 3) (1 : Int32))
              have := i_eq (show v711 37 0 4 = v710 37 0 4 by rw [ev711]; exact up3_j (by decide))
              have : ((v711 36 0 3).toInt = 0 ∧ (v711 36 0 4).toInt = 0) ∨ (0 < (v711 36 0 3).toInt ∧ 0 < (v711 36 0 4).toInt) := hI_v711.2.1
              refine ok_some ?_
              show IM v711 ∧ (Int32.toInt (v711 37 0 4) = Int32.toInt (v 37 0 4)) ∧ ((Int32.toInt (v 30 0 8) < 0 ∧ Int32.toInt (v711 37 0 3) = Int32.toInt (v 37 0 3) + 1) ∨ 0 ≤ Int32.toInt (v711 30 0 8))
              refine ⟨hI_v711, ?_⟩
              omega
        · skip
          have ic679 := i_ne c679
          have : (0 : Int32).toInt = 0 := (by decide)
          refine ok_kb2 (k_X8_takes v671 hI_v671 0 2 ) (fun r713 v714 hr713 => ?_)
          have hr713 : IM v714 ∧ (Int32.toInt (v714 37 0 3) = Int32.toInt (v671 37 0 3)) ∧ (Int32.toInt (v714 37 0 4) = Int32.toInt (v671 37 0 4)) ∧ (Int32.toInt (v671 30 0 8) < 0 ∨ 0 ≤ Int32.toInt (v714 30 0 8)) ∧ (¬ Int32.toInt 0 = 0 ∨ 0 ≤ Int32.toInt (v714 30 0 8)) ∧ (Int32.toInt r713 = 0 ∨ (Int32.toInt r713 = Int32.toInt (v671 30 0 12) ∧ ¬ Int32.toInt 0 = 0)) := hr713
          obtain ⟨hI_v714, hr713⟩ := hr713
          have : ((v714 36 0 3).toInt = 0 ∧ (v714 36 0 4).toInt = 0) ∨ (0 < (v714 36 0 3).toInt ∧ 0 < (v714 36 0 4).toInt) := hI_v714.2.1
          have : (0 : Int) ≤ (v671 37 0 3).toInt ∧ (v671 37 0 3).toInt ≤ (6 : Int) := hI_v671.1 37 0 3
          have : (0 : Int) ≤ (v671 37 0 4).toInt ∧ (v671 37 0 4).toInt ≤ (4 : Int) := hI_v671.1 37 0 4
          have : (-1 : Int) ≤ (v671 30 0 8).toInt ∧ (v671 30 0 8).toInt ≤ (100 : Int) := hI_v671.1 30 0 8
          have : (0 : Int32).toInt = 0 := (by decide)
          have : (2 : Int32).toInt = 2 := (by decide)
          refine ok_ite _ (fun c715 => ?_) (fun c715 => ?_)
          · skip
            have ic715 := i_eq c715
            have : (0 : Int) ≤ (v714 30 0 11).toInt ∧ (v714 30 0 11).toInt ≤ (5 : Int) := hI_v714.1 30 0 11
            have : (4 : Int32).toInt = 4 := (by decide)
            refine ok_kb2 (k_X8_takes v714 hI_v714 1 1 ) (fun r717 v718 hr717 => ?_)
            have hr717 : IM v718 ∧ (Int32.toInt (v718 37 0 3) = Int32.toInt (v714 37 0 3)) ∧ (Int32.toInt (v718 37 0 4) = Int32.toInt (v714 37 0 4)) ∧ (Int32.toInt (v714 30 0 8) < 0 ∨ 0 ≤ Int32.toInt (v718 30 0 8)) ∧ (¬ Int32.toInt 1 = 0 ∨ 0 ≤ Int32.toInt (v718 30 0 8)) ∧ (Int32.toInt r717 = 0 ∨ (Int32.toInt r717 = Int32.toInt (v714 30 0 12) ∧ ¬ Int32.toInt 1 = 0)) := hr717
            obtain ⟨hI_v718, hr717⟩ := hr717
            have : ((v718 36 0 3).toInt = 0 ∧ (v718 36 0 4).toInt = 0) ∨ (0 < (v718 36 0 3).toInt ∧ 0 < (v718 36 0 4).toInt) := hI_v718.2.1
            have : (0 : Int) ≤ (v714 37 0 3).toInt ∧ (v714 37 0 3).toInt ≤ (6 : Int) := hI_v714.1 37 0 3
            have : (0 : Int) ≤ (v714 37 0 4).toInt ∧ (v714 37 0 4).toInt ≤ (4 : Int) := hI_v714.1 37 0 4
            have : (-1 : Int) ≤ (v714 30 0 8).toInt ∧ (v714 30 0 8).toInt ≤ (100 : Int) := hI_v714.1 30 0 8
            have : (1 : Int32).toInt = 1 := (by decide)
            refine ok_bind (k_X8_isWell v718 hI_v718  ) (fun r720 hr720 => ?_)
            have hr720 : (0 : Int) ≤ Int32.toInt r720 ∧ Int32.toInt r720 ≤ (1 : Int) ∧ ((Int32.toInt r720 = 0 ∧ 0 ≤ Int32.toInt (v718 30 0 8)) ∨ (Int32.toInt r720 = 1 ∧ Int32.toInt (v718 30 0 8) < 0)) := hr720
            have : (-1 : Int) ≤ (v718 30 0 8).toInt ∧ (v718 30 0 8).toInt ≤ (100 : Int) := hI_v718.1 30 0 8
            refine ok_ite _ (fun c722 => ?_) (fun c722 => ?_)
            · skip
              have ic722 := i_eq c722
              have : (0 : Int32).toInt = 0 := (by decide)
              refine ok_some ?_
              show IM v718 ∧ (Int32.toInt (v718 37 0 4) = Int32.toInt (v 37 0 4)) ∧ ((Int32.toInt (v 30 0 8) < 0 ∧ Int32.toInt (v718 37 0 3) = Int32.toInt (v 37 0 3) + 1) ∨ 0 ≤ Int32.toInt (v718 30 0 8))
              refine ⟨hI_v718, ?_⟩
              omega
            · skip
              have ic722 := i_ne c722
              have : (0 : Int32).toInt = 0 := (by decide)
              refine ok_grd _ ?_ ?_
              · skip
                exact gr (by omega) (by omega)
              refine ok_let (fun v724 ev724 => ?_)
              have hI_v724 : IM v724 := by
                rw [ev724]
                first | exact hI_v718.um7 (by omega) (by omega) | exact hI_v718.u07
              have := i_eq (show v724 30 0 8 = v718 30 0 8 by rw [ev724]; exact up3_t (by decide))
              have := i_eq (show v724 30 0 11 = v718 30 0 11 by rw [ev724]; exact up3_t (by decide))
              have := i_eq (show v724 30 0 12 = v718 30 0 12 by rw [ev724]; exact up3_t (by decide))
              (try have := i_eq (show v724 37 0 3 = v718 37 0 3 by rw [ev724]; exact up3_j (tcne (by omega) (by omega))))
              (try have := i_eq (show v724 37 0 4 = v718 37 0 4 by rw [ev724]; exact up3_j (tcne (by omega) (by omega))))
              have : ((v724 36 0 3).toInt = 0 ∧ (v724 36 0 4).toInt = 0) ∨ (0 < (v724 36 0 3).toInt ∧ 0 < (v724 36 0 4).toInt) := hI_v724.2.1
              refine ok_grd _ ?_ ?_
              · skip
                have : (1 : Int32).toInt = 1 := (by decide)
                have := i_bd x665
                (first | have := sp_addx x665 (1 : Int32) (by omega) | obtain ⟨k559, hk559⟩ := sp_add x665 (1 : Int32))
                exact gr (by omega) (by omega)
              refine ok_let (fun v726 ev726 => ?_)
              have : (1 : Int32).toInt = 1 := (by decide)
              have := i_bd x665
              (first | have := sp_addx x665 (1 : Int32) (by omega) | obtain ⟨k560, hk560⟩ := sp_add x665 (1 : Int32))
              have hI_v726 : IM v726 := by
                rw [ev726]
                first | exact hI_v724.um7 (by omega) (by omega) | exact hI_v724.u07
              have := i_eq (show v726 30 0 8 = v724 30 0 8 by rw [ev726]; exact up3_t (by decide))
              have := i_eq (show v726 30 0 11 = v724 30 0 11 by rw [ev726]; exact up3_t (by decide))
              have := i_eq (show v726 30 0 12 = v724 30 0 12 by rw [ev726]; exact up3_t (by decide))
              (try have := i_eq (show v726 37 0 3 = v724 37 0 3 by rw [ev726]; exact up3_j (tcne (by omega) (by omega))))
              (try have := i_eq (show v726 37 0 4 = v724 37 0 4 by rw [ev726]; exact up3_j (tcne (by omega) (by omega))))
              have : ((v726 36 0 3).toInt = 0 ∧ (v726 36 0 4).toInt = 0) ∨ (0 < (v726 36 0 3).toInt ∧ 0 < (v726 36 0 4).toInt) := hI_v726.2.1
              refine ok_grd _ ?_ ?_
              · skip
                have : (2 : Int32).toInt = 2 := (by decide)
                have := i_bd x665
                (first | have := sp_addx x665 (2 : Int32) (by omega) | obtain ⟨k561, hk561⟩ := sp_add x665 (2 : Int32))
                exact gr (by omega) (by omega)
              refine ok_let (fun v728 ev728 => ?_)
              have : (2 : Int32).toInt = 2 := (by decide)
              have := i_bd x665
              (first | have := sp_addx x665 (2 : Int32) (by omega) | obtain ⟨k562, hk562⟩ := sp_add x665 (2 : Int32))
              have : (97 : Int32).toInt = 97 := (by decide)
              have := i_bd r713
              (first | have := sp_subx r713 (97 : Int32) (by omega) | obtain ⟨k563, hk563⟩ := sp_sub r713 (97 : Int32))
              have hI_v728 : IM v728 := by
                rw [ev728]
                first | exact hI_v726.um7 (by omega) (by omega) | exact hI_v726.u07
              have := i_eq (show v728 30 0 8 = v726 30 0 8 by rw [ev728]; exact up3_t (by decide))
              have := i_eq (show v728 30 0 11 = v726 30 0 11 by rw [ev728]; exact up3_t (by decide))
              have := i_eq (show v728 30 0 12 = v726 30 0 12 by rw [ev728]; exact up3_t (by decide))
              (try have := i_eq (show v728 37 0 3 = v726 37 0 3 by rw [ev728]; exact up3_j (tcne (by omega) (by omega))))
              (try have := i_eq (show v728 37 0 4 = v726 37 0 4 by rw [ev728]; exact up3_j (tcne (by omega) (by omega))))
              have : ((v728 36 0 3).toInt = 0 ∧ (v728 36 0 4).toInt = 0) ∨ (0 < (v728 36 0 3).toInt ∧ 0 < (v728 36 0 4).toInt) := hI_v728.2.1
              refine ok_let (fun v729 ev729 => ?_)
              have hI_v729 : IM v729 := by
                rw [ev729]
                refine hI_v728.upo (by decide) ?_
                show (0 : Int) ≤ Int32.toInt ((v728 37 0 3) + 1) ∧ Int32.toInt ((v728 37 0 3) + 1) ≤ (6 : Int)
                have : (0 : Int) ≤ (v728 37 0 3).toInt ∧ (v728 37 0 3).toInt ≤ (6 : Int) := hI_v728.1 37 0 3
                have : (1 : Int32).toInt = 1 := (by decide)
                have := i_bd (v728 37 0 3)
                (first | have := sp_addx (v728 37 0 3) (1 : Int32) (by omega) | obtain ⟨k564, hk564⟩ := sp_add (v728 37 0 3) (1 : Int32))
                omega
              have := i_eq (show v729 30 0 8 = v728 30 0 8 by rw [ev729]; exact up3_t (by decide))
              have := i_eq (show v729 30 0 11 = v728 30 0 11 by rw [ev729]; exact up3_t (by decide))
              have := i_eq (show v729 30 0 12 = v728 30 0 12 by rw [ev729]; exact up3_t (by decide))
              have := i_eq (show v729 37 0 3 = ((v728 37 0 3) + 1) by rw [ev729]; exact up3_s)
              have : (0 : Int) ≤ (v728 37 0 3).toInt ∧ (v728 37 0 3).toInt ≤ (6 : Int) := hI_v728.1 37 0 3
              have : (1 : Int32).toInt = 1 := (by decide)
              have := i_bd (v728 37 0 3)
              (first | have := sp_addx (v728 37 0 3) (1 : Int32) (by omega) | obtain ⟨k565, hk565⟩ := sp_add (v728 37 0 3) (1 : Int32))
              have := i_eq (show v729 37 0 4 = v728 37 0 4 by rw [ev729]; exact up3_j (by decide))
              have : ((v729 36 0 3).toInt = 0 ∧ (v729 36 0 4).toInt = 0) ∨ (0 < (v729 36 0 3).toInt ∧ 0 < (v729 36 0 4).toInt) := hI_v729.2.1
              refine ok_some ?_
              show IM v729 ∧ (Int32.toInt (v729 37 0 4) = Int32.toInt (v 37 0 4)) ∧ ((Int32.toInt (v 30 0 8) < 0 ∧ Int32.toInt (v729 37 0 3) = Int32.toInt (v 37 0 3) + 1) ∨ 0 ≤ Int32.toInt (v729 30 0 8))
              refine ⟨hI_v729, ?_⟩
              omega
          · skip
            have ic715 := i_ne c715
            have : (0 : Int) ≤ (v714 30 0 11).toInt ∧ (v714 30 0 11).toInt ≤ (5 : Int) := hI_v714.1 30 0 11
            have : (4 : Int32).toInt = 4 := (by decide)
            refine ok_kb2 (k_X8_takes v714 hI_v714 0 1 ) (fun r731 v732 hr731 => ?_)
            have hr731 : IM v732 ∧ (Int32.toInt (v732 37 0 3) = Int32.toInt (v714 37 0 3)) ∧ (Int32.toInt (v732 37 0 4) = Int32.toInt (v714 37 0 4)) ∧ (Int32.toInt (v714 30 0 8) < 0 ∨ 0 ≤ Int32.toInt (v732 30 0 8)) ∧ (¬ Int32.toInt 0 = 0 ∨ 0 ≤ Int32.toInt (v732 30 0 8)) ∧ (Int32.toInt r731 = 0 ∨ (Int32.toInt r731 = Int32.toInt (v714 30 0 12) ∧ ¬ Int32.toInt 0 = 0)) := hr731
            obtain ⟨hI_v732, hr731⟩ := hr731
            have : ((v732 36 0 3).toInt = 0 ∧ (v732 36 0 4).toInt = 0) ∨ (0 < (v732 36 0 3).toInt ∧ 0 < (v732 36 0 4).toInt) := hI_v732.2.1
            have : (0 : Int) ≤ (v714 37 0 3).toInt ∧ (v714 37 0 3).toInt ≤ (6 : Int) := hI_v714.1 37 0 3
            have : (0 : Int) ≤ (v714 37 0 4).toInt ∧ (v714 37 0 4).toInt ≤ (4 : Int) := hI_v714.1 37 0 4
            have : (-1 : Int) ≤ (v714 30 0 8).toInt ∧ (v714 30 0 8).toInt ≤ (100 : Int) := hI_v714.1 30 0 8
            have : (0 : Int32).toInt = 0 := (by decide)
            have : (1 : Int32).toInt = 1 := (by decide)
            refine ok_bind (k_X8_isWell v732 hI_v732  ) (fun r734 hr734 => ?_)
            have hr734 : (0 : Int) ≤ Int32.toInt r734 ∧ Int32.toInt r734 ≤ (1 : Int) ∧ ((Int32.toInt r734 = 0 ∧ 0 ≤ Int32.toInt (v732 30 0 8)) ∨ (Int32.toInt r734 = 1 ∧ Int32.toInt (v732 30 0 8) < 0)) := hr734
            have : (-1 : Int) ≤ (v732 30 0 8).toInt ∧ (v732 30 0 8).toInt ≤ (100 : Int) := hI_v732.1 30 0 8
            refine ok_ite _ (fun c736 => ?_) (fun c736 => ?_)
            · skip
              have ic736 := i_eq c736
              have : (0 : Int32).toInt = 0 := (by decide)
              refine ok_some ?_
              show IM v732 ∧ (Int32.toInt (v732 37 0 4) = Int32.toInt (v 37 0 4)) ∧ ((Int32.toInt (v 30 0 8) < 0 ∧ Int32.toInt (v732 37 0 3) = Int32.toInt (v 37 0 3) + 1) ∨ 0 ≤ Int32.toInt (v732 30 0 8))
              refine ⟨hI_v732, ?_⟩
              omega
            · skip
              have ic736 := i_ne c736
              have : (0 : Int32).toInt = 0 := (by decide)
              refine ok_grd _ ?_ ?_
              · skip
                exact gr (by omega) (by omega)
              refine ok_let (fun v738 ev738 => ?_)
              have hI_v738 : IM v738 := by
                rw [ev738]
                first | exact hI_v732.um7 (by omega) (by omega) | exact hI_v732.u07
              have := i_eq (show v738 30 0 8 = v732 30 0 8 by rw [ev738]; exact up3_t (by decide))
              have := i_eq (show v738 30 0 11 = v732 30 0 11 by rw [ev738]; exact up3_t (by decide))
              have := i_eq (show v738 30 0 12 = v732 30 0 12 by rw [ev738]; exact up3_t (by decide))
              (try have := i_eq (show v738 37 0 3 = v732 37 0 3 by rw [ev738]; exact up3_j (tcne (by omega) (by omega))))
              (try have := i_eq (show v738 37 0 4 = v732 37 0 4 by rw [ev738]; exact up3_j (tcne (by omega) (by omega))))
              have : ((v738 36 0 3).toInt = 0 ∧ (v738 36 0 4).toInt = 0) ∨ (0 < (v738 36 0 3).toInt ∧ 0 < (v738 36 0 4).toInt) := hI_v738.2.1
              refine ok_grd _ ?_ ?_
              · skip
                have : (1 : Int32).toInt = 1 := (by decide)
                have := i_bd x665
                (first | have := sp_addx x665 (1 : Int32) (by omega) | obtain ⟨k566, hk566⟩ := sp_add x665 (1 : Int32))
                exact gr (by omega) (by omega)
              refine ok_let (fun v740 ev740 => ?_)
              have : (1 : Int32).toInt = 1 := (by decide)
              have := i_bd x665
              (first | have := sp_addx x665 (1 : Int32) (by omega) | obtain ⟨k567, hk567⟩ := sp_add x665 (1 : Int32))
              have hI_v740 : IM v740 := by
                rw [ev740]
                first | exact hI_v738.um7 (by omega) (by omega) | exact hI_v738.u07
              have := i_eq (show v740 30 0 8 = v738 30 0 8 by rw [ev740]; exact up3_t (by decide))
              have := i_eq (show v740 30 0 11 = v738 30 0 11 by rw [ev740]; exact up3_t (by decide))
              have := i_eq (show v740 30 0 12 = v738 30 0 12 by rw [ev740]; exact up3_t (by decide))
              (try have := i_eq (show v740 37 0 3 = v738 37 0 3 by rw [ev740]; exact up3_j (tcne (by omega) (by omega))))
              (try have := i_eq (show v740 37 0 4 = v738 37 0 4 by rw [ev740]; exact up3_j (tcne (by omega) (by omega))))
              have : ((v740 36 0 3).toInt = 0 ∧ (v740 36 0 4).toInt = 0) ∨ (0 < (v740 36 0 3).toInt ∧ 0 < (v740 36 0 4).toInt) := hI_v740.2.1
              refine ok_grd _ ?_ ?_
              · skip
                have : (2 : Int32).toInt = 2 := (by decide)
                have := i_bd x665
                (first | have := sp_addx x665 (2 : Int32) (by omega) | obtain ⟨k568, hk568⟩ := sp_add x665 (2 : Int32))
                exact gr (by omega) (by omega)
              refine ok_let (fun v742 ev742 => ?_)
              have : (2 : Int32).toInt = 2 := (by decide)
              have := i_bd x665
              (first | have := sp_addx x665 (2 : Int32) (by omega) | obtain ⟨k569, hk569⟩ := sp_add x665 (2 : Int32))
              have : (97 : Int32).toInt = 97 := (by decide)
              have := i_bd r713
              (first | have := sp_subx r713 (97 : Int32) (by omega) | obtain ⟨k570, hk570⟩ := sp_sub r713 (97 : Int32))
              have hI_v742 : IM v742 := by
                rw [ev742]
                first | exact hI_v740.um7 (by omega) (by omega) | exact hI_v740.u07
              have := i_eq (show v742 30 0 8 = v740 30 0 8 by rw [ev742]; exact up3_t (by decide))
              have := i_eq (show v742 30 0 11 = v740 30 0 11 by rw [ev742]; exact up3_t (by decide))
              have := i_eq (show v742 30 0 12 = v740 30 0 12 by rw [ev742]; exact up3_t (by decide))
              (try have := i_eq (show v742 37 0 3 = v740 37 0 3 by rw [ev742]; exact up3_j (tcne (by omega) (by omega))))
              (try have := i_eq (show v742 37 0 4 = v740 37 0 4 by rw [ev742]; exact up3_j (tcne (by omega) (by omega))))
              have : ((v742 36 0 3).toInt = 0 ∧ (v742 36 0 4).toInt = 0) ∨ (0 < (v742 36 0 3).toInt ∧ 0 < (v742 36 0 4).toInt) := hI_v742.2.1
              refine ok_let (fun v743 ev743 => ?_)
              have hI_v743 : IM v743 := by
                rw [ev743]
                refine hI_v742.upo (by decide) ?_
                show (0 : Int) ≤ Int32.toInt ((v742 37 0 3) + 1) ∧ Int32.toInt ((v742 37 0 3) + 1) ≤ (6 : Int)
                have : (0 : Int) ≤ (v742 37 0 3).toInt ∧ (v742 37 0 3).toInt ≤ (6 : Int) := hI_v742.1 37 0 3
                have : (1 : Int32).toInt = 1 := (by decide)
                have := i_bd (v742 37 0 3)
                (first | have := sp_addx (v742 37 0 3) (1 : Int32) (by omega) | obtain ⟨k571, hk571⟩ := sp_add (v742 37 0 3) (1 : Int32))
                omega
              have := i_eq (show v743 30 0 8 = v742 30 0 8 by rw [ev743]; exact up3_t (by decide))
              have := i_eq (show v743 30 0 11 = v742 30 0 11 by rw [ev743]; exact up3_t (by decide))
              have := i_eq (show v743 30 0 12 = v742 30 0 12 by rw [ev743]; exact up3_t (by decide))
              have := i_eq (show v743 37 0 3 = ((v742 37 0 3) + 1) by rw [ev743]; exact up3_s)
              have : (0 : Int) ≤ (v742 37 0 3).toInt ∧ (v742 37 0 3).toInt ≤ (6 : Int) := hI_v742.1 37 0 3
              have : (1 : Int32).toInt = 1 := (by decide)
              have := i_bd (v742 37 0 3)
              (first | have := sp_addx (v742 37 0 3) (1 : Int32) (by omega) | obtain ⟨k572, hk572⟩ := sp_add (v742 37 0 3) (1 : Int32))
              have := i_eq (show v743 37 0 4 = v742 37 0 4 by rw [ev743]; exact up3_j (by decide))
              have : ((v743 36 0 3).toInt = 0 ∧ (v743 36 0 4).toInt = 0) ∨ (0 < (v743 36 0 3).toInt ∧ 0 < (v743 36 0 4).toInt) := hI_v743.2.1
              refine ok_some ?_
              show IM v743 ∧ (Int32.toInt (v743 37 0 4) = Int32.toInt (v 37 0 4)) ∧ ((Int32.toInt (v 30 0 8) < 0 ∧ Int32.toInt (v743 37 0 3) = Int32.toInt (v 37 0 3) + 1) ∨ 0 ≤ Int32.toInt (v743 30 0 8))
              refine ⟨hI_v743, ?_⟩
              omega
      · skip
        have ic675 := i_ne c675
        have : (0 : Int32).toInt = 0 := (by decide)
        refine ok_ite _ (fun c744 => ?_) (fun c744 => ?_)
        · skip
          have ic744 := i_eq c744
          have : (0 : Int) ≤ (v671 30 0 11).toInt ∧ (v671 30 0 11).toInt ≤ (5 : Int) := hI_v671.1 30 0 11
          have : (1 : Int32).toInt = 1 := (by decide)
          refine ok_bind (k_X8_isTold v671 hI_v671 r667 r670 ((v671 30 0 12) - 97) ) (fun r746 hr746 => ?_)
          have hr746 : (0 : Int) ≤ Int32.toInt r746 ∧ Int32.toInt r746 ≤ (1 : Int) := hr746
          refine ok_ite _ (fun c748 => ?_) (fun c748 => ?_)
          · skip
            have ic748 := i_eq c748
            have : (0 : Int32).toInt = 0 := (by decide)
            refine ok_kb2 (k_X8_takes v671 hI_v671 1 2 ) (fun r750 v751 hr750 => ?_)
            have hr750 : IM v751 ∧ (Int32.toInt (v751 37 0 3) = Int32.toInt (v671 37 0 3)) ∧ (Int32.toInt (v751 37 0 4) = Int32.toInt (v671 37 0 4)) ∧ (Int32.toInt (v671 30 0 8) < 0 ∨ 0 ≤ Int32.toInt (v751 30 0 8)) ∧ (¬ Int32.toInt 1 = 0 ∨ 0 ≤ Int32.toInt (v751 30 0 8)) ∧ (Int32.toInt r750 = 0 ∨ (Int32.toInt r750 = Int32.toInt (v671 30 0 12) ∧ ¬ Int32.toInt 1 = 0)) := hr750
            obtain ⟨hI_v751, hr750⟩ := hr750
            have : ((v751 36 0 3).toInt = 0 ∧ (v751 36 0 4).toInt = 0) ∨ (0 < (v751 36 0 3).toInt ∧ 0 < (v751 36 0 4).toInt) := hI_v751.2.1
            have : (0 : Int) ≤ (v671 37 0 3).toInt ∧ (v671 37 0 3).toInt ≤ (6 : Int) := hI_v671.1 37 0 3
            have : (0 : Int) ≤ (v671 37 0 4).toInt ∧ (v671 37 0 4).toInt ≤ (4 : Int) := hI_v671.1 37 0 4
            have : (-1 : Int) ≤ (v671 30 0 8).toInt ∧ (v671 30 0 8).toInt ≤ (100 : Int) := hI_v671.1 30 0 8
            have : (1 : Int32).toInt = 1 := (by decide)
            have : (2 : Int32).toInt = 2 := (by decide)
            refine ok_ite _ (fun c752 => ?_) (fun c752 => ?_)
            · skip
              have ic752 := i_eq c752
              have : (0 : Int) ≤ (v751 30 0 11).toInt ∧ (v751 30 0 11).toInt ≤ (5 : Int) := hI_v751.1 30 0 11
              have : (4 : Int32).toInt = 4 := (by decide)
              refine ok_kb2 (k_X8_takes v751 hI_v751 1 1 ) (fun r754 v755 hr754 => ?_)
              have hr754 : IM v755 ∧ (Int32.toInt (v755 37 0 3) = Int32.toInt (v751 37 0 3)) ∧ (Int32.toInt (v755 37 0 4) = Int32.toInt (v751 37 0 4)) ∧ (Int32.toInt (v751 30 0 8) < 0 ∨ 0 ≤ Int32.toInt (v755 30 0 8)) ∧ (¬ Int32.toInt 1 = 0 ∨ 0 ≤ Int32.toInt (v755 30 0 8)) ∧ (Int32.toInt r754 = 0 ∨ (Int32.toInt r754 = Int32.toInt (v751 30 0 12) ∧ ¬ Int32.toInt 1 = 0)) := hr754
              obtain ⟨hI_v755, hr754⟩ := hr754
              have : ((v755 36 0 3).toInt = 0 ∧ (v755 36 0 4).toInt = 0) ∨ (0 < (v755 36 0 3).toInt ∧ 0 < (v755 36 0 4).toInt) := hI_v755.2.1
              have : (0 : Int) ≤ (v751 37 0 3).toInt ∧ (v751 37 0 3).toInt ≤ (6 : Int) := hI_v751.1 37 0 3
              have : (0 : Int) ≤ (v751 37 0 4).toInt ∧ (v751 37 0 4).toInt ≤ (4 : Int) := hI_v751.1 37 0 4
              have : (-1 : Int) ≤ (v751 30 0 8).toInt ∧ (v751 30 0 8).toInt ≤ (100 : Int) := hI_v751.1 30 0 8
              have : (1 : Int32).toInt = 1 := (by decide)
              refine ok_bind (k_X8_isWell v755 hI_v755  ) (fun r757 hr757 => ?_)
              have hr757 : (0 : Int) ≤ Int32.toInt r757 ∧ Int32.toInt r757 ≤ (1 : Int) ∧ ((Int32.toInt r757 = 0 ∧ 0 ≤ Int32.toInt (v755 30 0 8)) ∨ (Int32.toInt r757 = 1 ∧ Int32.toInt (v755 30 0 8) < 0)) := hr757
              have : (-1 : Int) ≤ (v755 30 0 8).toInt ∧ (v755 30 0 8).toInt ≤ (100 : Int) := hI_v755.1 30 0 8
              refine ok_ite _ (fun c759 => ?_) (fun c759 => ?_)
              · skip
                have ic759 := i_eq c759
                have : (0 : Int32).toInt = 0 := (by decide)
                refine ok_some ?_
                show IM v755 ∧ (Int32.toInt (v755 37 0 4) = Int32.toInt (v 37 0 4)) ∧ ((Int32.toInt (v 30 0 8) < 0 ∧ Int32.toInt (v755 37 0 3) = Int32.toInt (v 37 0 3) + 1) ∨ 0 ≤ Int32.toInt (v755 30 0 8))
                refine ⟨hI_v755, ?_⟩
                omega
              · skip
                have ic759 := i_ne c759
                have : (0 : Int32).toInt = 0 := (by decide)
                refine ok_grd _ ?_ ?_
                · skip
                  exact gr (by omega) (by omega)
                refine ok_let (fun v761 ev761 => ?_)
                have hI_v761 : IM v761 := by
                  rw [ev761]
                  first | exact hI_v755.um7 (by omega) (by omega) | exact hI_v755.u07
                have := i_eq (show v761 30 0 8 = v755 30 0 8 by rw [ev761]; exact up3_t (by decide))
                have := i_eq (show v761 30 0 11 = v755 30 0 11 by rw [ev761]; exact up3_t (by decide))
                have := i_eq (show v761 30 0 12 = v755 30 0 12 by rw [ev761]; exact up3_t (by decide))
                (try have := i_eq (show v761 37 0 3 = v755 37 0 3 by rw [ev761]; exact up3_j (tcne (by omega) (by omega))))
                (try have := i_eq (show v761 37 0 4 = v755 37 0 4 by rw [ev761]; exact up3_j (tcne (by omega) (by omega))))
                have : ((v761 36 0 3).toInt = 0 ∧ (v761 36 0 4).toInt = 0) ∨ (0 < (v761 36 0 3).toInt ∧ 0 < (v761 36 0 4).toInt) := hI_v761.2.1
                refine ok_grd _ ?_ ?_
                · skip
                  have : (1 : Int32).toInt = 1 := (by decide)
                  have := i_bd x665
                  (first | have := sp_addx x665 (1 : Int32) (by omega) | obtain ⟨k573, hk573⟩ := sp_add x665 (1 : Int32))
                  exact gr (by omega) (by omega)
                refine ok_let (fun v763 ev763 => ?_)
                have : (1 : Int32).toInt = 1 := (by decide)
                have := i_bd x665
                (first | have := sp_addx x665 (1 : Int32) (by omega) | obtain ⟨k574, hk574⟩ := sp_add x665 (1 : Int32))
                have hI_v763 : IM v763 := by
                  rw [ev763]
                  first | exact hI_v761.um7 (by omega) (by omega) | exact hI_v761.u07
                have := i_eq (show v763 30 0 8 = v761 30 0 8 by rw [ev763]; exact up3_t (by decide))
                have := i_eq (show v763 30 0 11 = v761 30 0 11 by rw [ev763]; exact up3_t (by decide))
                have := i_eq (show v763 30 0 12 = v761 30 0 12 by rw [ev763]; exact up3_t (by decide))
                (try have := i_eq (show v763 37 0 3 = v761 37 0 3 by rw [ev763]; exact up3_j (tcne (by omega) (by omega))))
                (try have := i_eq (show v763 37 0 4 = v761 37 0 4 by rw [ev763]; exact up3_j (tcne (by omega) (by omega))))
                have : ((v763 36 0 3).toInt = 0 ∧ (v763 36 0 4).toInt = 0) ∨ (0 < (v763 36 0 3).toInt ∧ 0 < (v763 36 0 4).toInt) := hI_v763.2.1
                refine ok_grd _ ?_ ?_
                · skip
                  have : (2 : Int32).toInt = 2 := (by decide)
                  have := i_bd x665
                  (first | have := sp_addx x665 (2 : Int32) (by omega) | obtain ⟨k575, hk575⟩ := sp_add x665 (2 : Int32))
                  exact gr (by omega) (by omega)
                refine ok_let (fun v765 ev765 => ?_)
                have : (2 : Int32).toInt = 2 := (by decide)
                have := i_bd x665
                (first | have := sp_addx x665 (2 : Int32) (by omega) | obtain ⟨k576, hk576⟩ := sp_add x665 (2 : Int32))
                have : (97 : Int32).toInt = 97 := (by decide)
                have := i_bd r750
                (first | have := sp_subx r750 (97 : Int32) (by omega) | obtain ⟨k577, hk577⟩ := sp_sub r750 (97 : Int32))
                have hI_v765 : IM v765 := by
                  rw [ev765]
                  first | exact hI_v763.um7 (by omega) (by omega) | exact hI_v763.u07
                have := i_eq (show v765 30 0 8 = v763 30 0 8 by rw [ev765]; exact up3_t (by decide))
                have := i_eq (show v765 30 0 11 = v763 30 0 11 by rw [ev765]; exact up3_t (by decide))
                have := i_eq (show v765 30 0 12 = v763 30 0 12 by rw [ev765]; exact up3_t (by decide))
                (try have := i_eq (show v765 37 0 3 = v763 37 0 3 by rw [ev765]; exact up3_j (tcne (by omega) (by omega))))
                (try have := i_eq (show v765 37 0 4 = v763 37 0 4 by rw [ev765]; exact up3_j (tcne (by omega) (by omega))))
                have : ((v765 36 0 3).toInt = 0 ∧ (v765 36 0 4).toInt = 0) ∨ (0 < (v765 36 0 3).toInt ∧ 0 < (v765 36 0 4).toInt) := hI_v765.2.1
                refine ok_let (fun v766 ev766 => ?_)
                have hI_v766 : IM v766 := by
                  rw [ev766]
                  refine hI_v765.upo (by decide) ?_
                  show (0 : Int) ≤ Int32.toInt ((v765 37 0 3) + 1) ∧ Int32.toInt ((v765 37 0 3) + 1) ≤ (6 : Int)
                  have : (0 : Int) ≤ (v765 37 0 3).toInt ∧ (v765 37 0 3).toInt ≤ (6 : Int) := hI_v765.1 37 0 3
                  have : (1 : Int32).toInt = 1 := (by decide)
                  have := i_bd (v765 37 0 3)
                  (first | have := sp_addx (v765 37 0 3) (1 : Int32) (by omega) | obtain ⟨k578, hk578⟩ := sp_add (v765 37 0 3) (1 : Int32))
                  omega
                have := i_eq (show v766 30 0 8 = v765 30 0 8 by rw [ev766]; exact up3_t (by decide))
                have := i_eq (show v766 30 0 11 = v765 30 0 11 by rw [ev766]; exact up3_t (by decide))
                have := i_eq (show v766 30 0 12 = v765 30 0 12 by rw [ev766]; exact up3_t (by decide))
                have := i_eq (show v766 37 0 3 = ((v765 37 0 3) + 1) by rw [ev766]; exact up3_s)
                have : (0 : Int) ≤ (v765 37 0 3).toInt ∧ (v765 37 0 3).toInt ≤ (6 : Int) := hI_v765.1 37 0 3
                have : (1 : Int32).toInt = 1 := (by decide)
                have := i_bd (v765 37 0 3)
                (first | have := sp_addx (v765 37 0 3) (1 : Int32) (by omega) | obtain ⟨k579, hk579⟩ := sp_add (v765 37 0 3) (1 : Int32))
                have := i_eq (show v766 37 0 4 = v765 37 0 4 by rw [ev766]; exact up3_j (by decide))
                have : ((v766 36 0 3).toInt = 0 ∧ (v766 36 0 4).toInt = 0) ∨ (0 < (v766 36 0 3).toInt ∧ 0 < (v766 36 0 4).toInt) := hI_v766.2.1
                refine ok_some ?_
                show IM v766 ∧ (Int32.toInt (v766 37 0 4) = Int32.toInt (v 37 0 4)) ∧ ((Int32.toInt (v 30 0 8) < 0 ∧ Int32.toInt (v766 37 0 3) = Int32.toInt (v 37 0 3) + 1) ∨ 0 ≤ Int32.toInt (v766 30 0 8))
                refine ⟨hI_v766, ?_⟩
                omega
            · skip
              have ic752 := i_ne c752
              have : (0 : Int) ≤ (v751 30 0 11).toInt ∧ (v751 30 0 11).toInt ≤ (5 : Int) := hI_v751.1 30 0 11
              have : (4 : Int32).toInt = 4 := (by decide)
              refine ok_kb2 (k_X8_takes v751 hI_v751 0 1 ) (fun r768 v769 hr768 => ?_)
              have hr768 : IM v769 ∧ (Int32.toInt (v769 37 0 3) = Int32.toInt (v751 37 0 3)) ∧ (Int32.toInt (v769 37 0 4) = Int32.toInt (v751 37 0 4)) ∧ (Int32.toInt (v751 30 0 8) < 0 ∨ 0 ≤ Int32.toInt (v769 30 0 8)) ∧ (¬ Int32.toInt 0 = 0 ∨ 0 ≤ Int32.toInt (v769 30 0 8)) ∧ (Int32.toInt r768 = 0 ∨ (Int32.toInt r768 = Int32.toInt (v751 30 0 12) ∧ ¬ Int32.toInt 0 = 0)) := hr768
              obtain ⟨hI_v769, hr768⟩ := hr768
              have : ((v769 36 0 3).toInt = 0 ∧ (v769 36 0 4).toInt = 0) ∨ (0 < (v769 36 0 3).toInt ∧ 0 < (v769 36 0 4).toInt) := hI_v769.2.1
              have : (0 : Int) ≤ (v751 37 0 3).toInt ∧ (v751 37 0 3).toInt ≤ (6 : Int) := hI_v751.1 37 0 3
              have : (0 : Int) ≤ (v751 37 0 4).toInt ∧ (v751 37 0 4).toInt ≤ (4 : Int) := hI_v751.1 37 0 4
              have : (-1 : Int) ≤ (v751 30 0 8).toInt ∧ (v751 30 0 8).toInt ≤ (100 : Int) := hI_v751.1 30 0 8
              have : (0 : Int32).toInt = 0 := (by decide)
              have : (1 : Int32).toInt = 1 := (by decide)
              refine ok_bind (k_X8_isWell v769 hI_v769  ) (fun r771 hr771 => ?_)
              have hr771 : (0 : Int) ≤ Int32.toInt r771 ∧ Int32.toInt r771 ≤ (1 : Int) ∧ ((Int32.toInt r771 = 0 ∧ 0 ≤ Int32.toInt (v769 30 0 8)) ∨ (Int32.toInt r771 = 1 ∧ Int32.toInt (v769 30 0 8) < 0)) := hr771
              have : (-1 : Int) ≤ (v769 30 0 8).toInt ∧ (v769 30 0 8).toInt ≤ (100 : Int) := hI_v769.1 30 0 8
              refine ok_ite _ (fun c773 => ?_) (fun c773 => ?_)
              · skip
                have ic773 := i_eq c773
                have : (0 : Int32).toInt = 0 := (by decide)
                refine ok_some ?_
                show IM v769 ∧ (Int32.toInt (v769 37 0 4) = Int32.toInt (v 37 0 4)) ∧ ((Int32.toInt (v 30 0 8) < 0 ∧ Int32.toInt (v769 37 0 3) = Int32.toInt (v 37 0 3) + 1) ∨ 0 ≤ Int32.toInt (v769 30 0 8))
                refine ⟨hI_v769, ?_⟩
                omega
              · skip
                have ic773 := i_ne c773
                have : (0 : Int32).toInt = 0 := (by decide)
                refine ok_grd _ ?_ ?_
                · skip
                  exact gr (by omega) (by omega)
                refine ok_let (fun v775 ev775 => ?_)
                have hI_v775 : IM v775 := by
                  rw [ev775]
                  first | exact hI_v769.um7 (by omega) (by omega) | exact hI_v769.u07
                have := i_eq (show v775 30 0 8 = v769 30 0 8 by rw [ev775]; exact up3_t (by decide))
                have := i_eq (show v775 30 0 11 = v769 30 0 11 by rw [ev775]; exact up3_t (by decide))
                have := i_eq (show v775 30 0 12 = v769 30 0 12 by rw [ev775]; exact up3_t (by decide))
                (try have := i_eq (show v775 37 0 3 = v769 37 0 3 by rw [ev775]; exact up3_j (tcne (by omega) (by omega))))
                (try have := i_eq (show v775 37 0 4 = v769 37 0 4 by rw [ev775]; exact up3_j (tcne (by omega) (by omega))))
                have : ((v775 36 0 3).toInt = 0 ∧ (v775 36 0 4).toInt = 0) ∨ (0 < (v775 36 0 3).toInt ∧ 0 < (v775 36 0 4).toInt) := hI_v775.2.1
                refine ok_grd _ ?_ ?_
                · skip
                  have : (1 : Int32).toInt = 1 := (by decide)
                  have := i_bd x665
                  (first | have := sp_addx x665 (1 : Int32) (by omega) | obtain ⟨k580, hk580⟩ := sp_add x665 (1 : Int32))
                  exact gr (by omega) (by omega)
                refine ok_let (fun v777 ev777 => ?_)
                have : (1 : Int32).toInt = 1 := (by decide)
                have := i_bd x665
                (first | have := sp_addx x665 (1 : Int32) (by omega) | obtain ⟨k581, hk581⟩ := sp_add x665 (1 : Int32))
                have hI_v777 : IM v777 := by
                  rw [ev777]
                  first | exact hI_v775.um7 (by omega) (by omega) | exact hI_v775.u07
                have := i_eq (show v777 30 0 8 = v775 30 0 8 by rw [ev777]; exact up3_t (by decide))
                have := i_eq (show v777 30 0 11 = v775 30 0 11 by rw [ev777]; exact up3_t (by decide))
                have := i_eq (show v777 30 0 12 = v775 30 0 12 by rw [ev777]; exact up3_t (by decide))
                (try have := i_eq (show v777 37 0 3 = v775 37 0 3 by rw [ev777]; exact up3_j (tcne (by omega) (by omega))))
                (try have := i_eq (show v777 37 0 4 = v775 37 0 4 by rw [ev777]; exact up3_j (tcne (by omega) (by omega))))
                have : ((v777 36 0 3).toInt = 0 ∧ (v777 36 0 4).toInt = 0) ∨ (0 < (v777 36 0 3).toInt ∧ 0 < (v777 36 0 4).toInt) := hI_v777.2.1
                refine ok_grd _ ?_ ?_
                · skip
                  have : (2 : Int32).toInt = 2 := (by decide)
                  have := i_bd x665
                  (first | have := sp_addx x665 (2 : Int32) (by omega) | obtain ⟨k582, hk582⟩ := sp_add x665 (2 : Int32))
                  exact gr (by omega) (by omega)
                refine ok_let (fun v779 ev779 => ?_)
                have : (2 : Int32).toInt = 2 := (by decide)
                have := i_bd x665
                (first | have := sp_addx x665 (2 : Int32) (by omega) | obtain ⟨k583, hk583⟩ := sp_add x665 (2 : Int32))
                have : (97 : Int32).toInt = 97 := (by decide)
                have := i_bd r750
                (first | have := sp_subx r750 (97 : Int32) (by omega) | obtain ⟨k584, hk584⟩ := sp_sub r750 (97 : Int32))
                have hI_v779 : IM v779 := by
                  rw [ev779]
                  first | exact hI_v777.um7 (by omega) (by omega) | exact hI_v777.u07
                have := i_eq (show v779 30 0 8 = v777 30 0 8 by rw [ev779]; exact up3_t (by decide))
                have := i_eq (show v779 30 0 11 = v777 30 0 11 by rw [ev779]; exact up3_t (by decide))
                have := i_eq (show v779 30 0 12 = v777 30 0 12 by rw [ev779]; exact up3_t (by decide))
                (try have := i_eq (show v779 37 0 3 = v777 37 0 3 by rw [ev779]; exact up3_j (tcne (by omega) (by omega))))
                (try have := i_eq (show v779 37 0 4 = v777 37 0 4 by rw [ev779]; exact up3_j (tcne (by omega) (by omega))))
                have : ((v779 36 0 3).toInt = 0 ∧ (v779 36 0 4).toInt = 0) ∨ (0 < (v779 36 0 3).toInt ∧ 0 < (v779 36 0 4).toInt) := hI_v779.2.1
                refine ok_let (fun v780 ev780 => ?_)
                have hI_v780 : IM v780 := by
                  rw [ev780]
                  refine hI_v779.upo (by decide) ?_
                  show (0 : Int) ≤ Int32.toInt ((v779 37 0 3) + 1) ∧ Int32.toInt ((v779 37 0 3) + 1) ≤ (6 : Int)
                  have : (0 : Int) ≤ (v779 37 0 3).toInt ∧ (v779 37 0 3).toInt ≤ (6 : Int) := hI_v779.1 37 0 3
                  have : (1 : Int32).toInt = 1 := (by decide)
                  have := i_bd (v779 37 0 3)
                  (first | have := sp_addx (v779 37 0 3) (1 : Int32) (by omega) | obtain ⟨k585, hk585⟩ := sp_add (v779 37 0 3) (1 : Int32))
                  omega
                have := i_eq (show v780 30 0 8 = v779 30 0 8 by rw [ev780]; exact up3_t (by decide))
                have := i_eq (show v780 30 0 11 = v779 30 0 11 by rw [ev780]; exact up3_t (by decide))
                have := i_eq (show v780 30 0 12 = v779 30 0 12 by rw [ev780]; exact up3_t (by decide))
                have := i_eq (show v780 37 0 3 = ((v779 37 0 3) + 1) by rw [ev780]; exact up3_s)
                have : (0 : Int) ≤ (v779 37 0 3).toInt ∧ (v779 37 0 3).toInt ≤ (6 : Int) := hI_v779.1 37 0 3
                have : (1 : Int32).toInt = 1 := (by decide)
                have := i_bd (v779 37 0 3)
                (first | have := sp_addx (v779 37 0 3) (1 : Int32) (by omega) | obtain ⟨k586, hk586⟩ := sp_add (v779 37 0 3) (1 : Int32))
                have := i_eq (show v780 37 0 4 = v779 37 0 4 by rw [ev780]; exact up3_j (by decide))
                have : ((v780 36 0 3).toInt = 0 ∧ (v780 36 0 4).toInt = 0) ∨ (0 < (v780 36 0 3).toInt ∧ 0 < (v780 36 0 4).toInt) := hI_v780.2.1
                refine ok_some ?_
                show IM v780 ∧ (Int32.toInt (v780 37 0 4) = Int32.toInt (v 37 0 4)) ∧ ((Int32.toInt (v 30 0 8) < 0 ∧ Int32.toInt (v780 37 0 3) = Int32.toInt (v 37 0 3) + 1) ∨ 0 ≤ Int32.toInt (v780 30 0 8))
                refine ⟨hI_v780, ?_⟩
                omega
          · skip
            have ic748 := i_ne c748
            have : (0 : Int32).toInt = 0 := (by decide)
            refine ok_kb2 (k_X8_takes v671 hI_v671 0 2 ) (fun r782 v783 hr782 => ?_)
            have hr782 : IM v783 ∧ (Int32.toInt (v783 37 0 3) = Int32.toInt (v671 37 0 3)) ∧ (Int32.toInt (v783 37 0 4) = Int32.toInt (v671 37 0 4)) ∧ (Int32.toInt (v671 30 0 8) < 0 ∨ 0 ≤ Int32.toInt (v783 30 0 8)) ∧ (¬ Int32.toInt 0 = 0 ∨ 0 ≤ Int32.toInt (v783 30 0 8)) ∧ (Int32.toInt r782 = 0 ∨ (Int32.toInt r782 = Int32.toInt (v671 30 0 12) ∧ ¬ Int32.toInt 0 = 0)) := hr782
            obtain ⟨hI_v783, hr782⟩ := hr782
            have : ((v783 36 0 3).toInt = 0 ∧ (v783 36 0 4).toInt = 0) ∨ (0 < (v783 36 0 3).toInt ∧ 0 < (v783 36 0 4).toInt) := hI_v783.2.1
            have : (0 : Int) ≤ (v671 37 0 3).toInt ∧ (v671 37 0 3).toInt ≤ (6 : Int) := hI_v671.1 37 0 3
            have : (0 : Int) ≤ (v671 37 0 4).toInt ∧ (v671 37 0 4).toInt ≤ (4 : Int) := hI_v671.1 37 0 4
            have : (-1 : Int) ≤ (v671 30 0 8).toInt ∧ (v671 30 0 8).toInt ≤ (100 : Int) := hI_v671.1 30 0 8
            have : (0 : Int32).toInt = 0 := (by decide)
            have : (2 : Int32).toInt = 2 := (by decide)
            refine ok_ite _ (fun c784 => ?_) (fun c784 => ?_)
            · skip
              have ic784 := i_eq c784
              have : (0 : Int) ≤ (v783 30 0 11).toInt ∧ (v783 30 0 11).toInt ≤ (5 : Int) := hI_v783.1 30 0 11
              have : (4 : Int32).toInt = 4 := (by decide)
              refine ok_kb2 (k_X8_takes v783 hI_v783 1 1 ) (fun r786 v787 hr786 => ?_)
              have hr786 : IM v787 ∧ (Int32.toInt (v787 37 0 3) = Int32.toInt (v783 37 0 3)) ∧ (Int32.toInt (v787 37 0 4) = Int32.toInt (v783 37 0 4)) ∧ (Int32.toInt (v783 30 0 8) < 0 ∨ 0 ≤ Int32.toInt (v787 30 0 8)) ∧ (¬ Int32.toInt 1 = 0 ∨ 0 ≤ Int32.toInt (v787 30 0 8)) ∧ (Int32.toInt r786 = 0 ∨ (Int32.toInt r786 = Int32.toInt (v783 30 0 12) ∧ ¬ Int32.toInt 1 = 0)) := hr786
              obtain ⟨hI_v787, hr786⟩ := hr786
              have : ((v787 36 0 3).toInt = 0 ∧ (v787 36 0 4).toInt = 0) ∨ (0 < (v787 36 0 3).toInt ∧ 0 < (v787 36 0 4).toInt) := hI_v787.2.1
              have : (0 : Int) ≤ (v783 37 0 3).toInt ∧ (v783 37 0 3).toInt ≤ (6 : Int) := hI_v783.1 37 0 3
              have : (0 : Int) ≤ (v783 37 0 4).toInt ∧ (v783 37 0 4).toInt ≤ (4 : Int) := hI_v783.1 37 0 4
              have : (-1 : Int) ≤ (v783 30 0 8).toInt ∧ (v783 30 0 8).toInt ≤ (100 : Int) := hI_v783.1 30 0 8
              have : (1 : Int32).toInt = 1 := (by decide)
              refine ok_bind (k_X8_isWell v787 hI_v787  ) (fun r789 hr789 => ?_)
              have hr789 : (0 : Int) ≤ Int32.toInt r789 ∧ Int32.toInt r789 ≤ (1 : Int) ∧ ((Int32.toInt r789 = 0 ∧ 0 ≤ Int32.toInt (v787 30 0 8)) ∨ (Int32.toInt r789 = 1 ∧ Int32.toInt (v787 30 0 8) < 0)) := hr789
              have : (-1 : Int) ≤ (v787 30 0 8).toInt ∧ (v787 30 0 8).toInt ≤ (100 : Int) := hI_v787.1 30 0 8
              refine ok_ite _ (fun c791 => ?_) (fun c791 => ?_)
              · skip
                have ic791 := i_eq c791
                have : (0 : Int32).toInt = 0 := (by decide)
                refine ok_some ?_
                show IM v787 ∧ (Int32.toInt (v787 37 0 4) = Int32.toInt (v 37 0 4)) ∧ ((Int32.toInt (v 30 0 8) < 0 ∧ Int32.toInt (v787 37 0 3) = Int32.toInt (v 37 0 3) + 1) ∨ 0 ≤ Int32.toInt (v787 30 0 8))
                refine ⟨hI_v787, ?_⟩
                omega
              · skip
                have ic791 := i_ne c791
                have : (0 : Int32).toInt = 0 := (by decide)
                refine ok_grd _ ?_ ?_
                · skip
                  exact gr (by omega) (by omega)
                refine ok_let (fun v793 ev793 => ?_)
                have hI_v793 : IM v793 := by
                  rw [ev793]
                  first | exact hI_v787.um7 (by omega) (by omega) | exact hI_v787.u07
                have := i_eq (show v793 30 0 8 = v787 30 0 8 by rw [ev793]; exact up3_t (by decide))
                have := i_eq (show v793 30 0 11 = v787 30 0 11 by rw [ev793]; exact up3_t (by decide))
                have := i_eq (show v793 30 0 12 = v787 30 0 12 by rw [ev793]; exact up3_t (by decide))
                (try have := i_eq (show v793 37 0 3 = v787 37 0 3 by rw [ev793]; exact up3_j (tcne (by omega) (by omega))))
                (try have := i_eq (show v793 37 0 4 = v787 37 0 4 by rw [ev793]; exact up3_j (tcne (by omega) (by omega))))
                have : ((v793 36 0 3).toInt = 0 ∧ (v793 36 0 4).toInt = 0) ∨ (0 < (v793 36 0 3).toInt ∧ 0 < (v793 36 0 4).toInt) := hI_v793.2.1
                refine ok_grd _ ?_ ?_
                · skip
                  have : (1 : Int32).toInt = 1 := (by decide)
                  have := i_bd x665
                  (first | have := sp_addx x665 (1 : Int32) (by omega) | obtain ⟨k587, hk587⟩ := sp_add x665 (1 : Int32))
                  exact gr (by omega) (by omega)
                refine ok_let (fun v795 ev795 => ?_)
                have : (1 : Int32).toInt = 1 := (by decide)
                have := i_bd x665
                (first | have := sp_addx x665 (1 : Int32) (by omega) | obtain ⟨k588, hk588⟩ := sp_add x665 (1 : Int32))
                have hI_v795 : IM v795 := by
                  rw [ev795]
                  first | exact hI_v793.um7 (by omega) (by omega) | exact hI_v793.u07
                have := i_eq (show v795 30 0 8 = v793 30 0 8 by rw [ev795]; exact up3_t (by decide))
                have := i_eq (show v795 30 0 11 = v793 30 0 11 by rw [ev795]; exact up3_t (by decide))
                have := i_eq (show v795 30 0 12 = v793 30 0 12 by rw [ev795]; exact up3_t (by decide))
                (try have := i_eq (show v795 37 0 3 = v793 37 0 3 by rw [ev795]; exact up3_j (tcne (by omega) (by omega))))
                (try have := i_eq (show v795 37 0 4 = v793 37 0 4 by rw [ev795]; exact up3_j (tcne (by omega) (by omega))))
                have : ((v795 36 0 3).toInt = 0 ∧ (v795 36 0 4).toInt = 0) ∨ (0 < (v795 36 0 3).toInt ∧ 0 < (v795 36 0 4).toInt) := hI_v795.2.1
                refine ok_grd _ ?_ ?_
                · skip
                  have : (2 : Int32).toInt = 2 := (by decide)
                  have := i_bd x665
                  (first | have := sp_addx x665 (2 : Int32) (by omega) | obtain ⟨k589, hk589⟩ := sp_add x665 (2 : Int32))
                  exact gr (by omega) (by omega)
                refine ok_let (fun v797 ev797 => ?_)
                have : (2 : Int32).toInt = 2 := (by decide)
                have := i_bd x665
                (first | have := sp_addx x665 (2 : Int32) (by omega) | obtain ⟨k590, hk590⟩ := sp_add x665 (2 : Int32))
                have : (97 : Int32).toInt = 97 := (by decide)
                have := i_bd r782
                (first | have := sp_subx r782 (97 : Int32) (by omega) | obtain ⟨k591, hk591⟩ := sp_sub r782 (97 : Int32))
                have hI_v797 : IM v797 := by
                  rw [ev797]
                  first | exact hI_v795.um7 (by omega) (by omega) | exact hI_v795.u07
                have := i_eq (show v797 30 0 8 = v795 30 0 8 by rw [ev797]; exact up3_t (by decide))
                have := i_eq (show v797 30 0 11 = v795 30 0 11 by rw [ev797]; exact up3_t (by decide))
                have := i_eq (show v797 30 0 12 = v795 30 0 12 by rw [ev797]; exact up3_t (by decide))
                (try have := i_eq (show v797 37 0 3 = v795 37 0 3 by rw [ev797]; exact up3_j (tcne (by omega) (by omega))))
                (try have := i_eq (show v797 37 0 4 = v795 37 0 4 by rw [ev797]; exact up3_j (tcne (by omega) (by omega))))
                have : ((v797 36 0 3).toInt = 0 ∧ (v797 36 0 4).toInt = 0) ∨ (0 < (v797 36 0 3).toInt ∧ 0 < (v797 36 0 4).toInt) := hI_v797.2.1
                refine ok_let (fun v798 ev798 => ?_)
                have hI_v798 : IM v798 := by
                  rw [ev798]
                  refine hI_v797.upo (by decide) ?_
                  show (0 : Int) ≤ Int32.toInt ((v797 37 0 3) + 1) ∧ Int32.toInt ((v797 37 0 3) + 1) ≤ (6 : Int)
                  have : (0 : Int) ≤ (v797 37 0 3).toInt ∧ (v797 37 0 3).toInt ≤ (6 : Int) := hI_v797.1 37 0 3
                  have : (1 : Int32).toInt = 1 := (by decide)
                  have := i_bd (v797 37 0 3)
                  (first | have := sp_addx (v797 37 0 3) (1 : Int32) (by omega) | obtain ⟨k592, hk592⟩ := sp_add (v797 37 0 3) (1 : Int32))
                  omega
                have := i_eq (show v798 30 0 8 = v797 30 0 8 by rw [ev798]; exact up3_t (by decide))
                have := i_eq (show v798 30 0 11 = v797 30 0 11 by rw [ev798]; exact up3_t (by decide))
                have := i_eq (show v798 30 0 12 = v797 30 0 12 by rw [ev798]; exact up3_t (by decide))
                have := i_eq (show v798 37 0 3 = ((v797 37 0 3) + 1) by rw [ev798]; exact up3_s)
                have : (0 : Int) ≤ (v797 37 0 3).toInt ∧ (v797 37 0 3).toInt ≤ (6 : Int) := hI_v797.1 37 0 3
                have : (1 : Int32).toInt = 1 := (by decide)
                have := i_bd (v797 37 0 3)
                (first | have := sp_addx (v797 37 0 3) (1 : Int32) (by omega) | obtain ⟨k593, hk593⟩ := sp_add (v797 37 0 3) (1 : Int32))
                have := i_eq (show v798 37 0 4 = v797 37 0 4 by rw [ev798]; exact up3_j (by decide))
                have : ((v798 36 0 3).toInt = 0 ∧ (v798 36 0 4).toInt = 0) ∨ (0 < (v798 36 0 3).toInt ∧ 0 < (v798 36 0 4).toInt) := hI_v798.2.1
                refine ok_some ?_
                show IM v798 ∧ (Int32.toInt (v798 37 0 4) = Int32.toInt (v 37 0 4)) ∧ ((Int32.toInt (v 30 0 8) < 0 ∧ Int32.toInt (v798 37 0 3) = Int32.toInt (v 37 0 3) + 1) ∨ 0 ≤ Int32.toInt (v798 30 0 8))
                refine ⟨hI_v798, ?_⟩
                omega
            · skip
              have ic784 := i_ne c784
              have : (0 : Int) ≤ (v783 30 0 11).toInt ∧ (v783 30 0 11).toInt ≤ (5 : Int) := hI_v783.1 30 0 11
              have : (4 : Int32).toInt = 4 := (by decide)
              refine ok_kb2 (k_X8_takes v783 hI_v783 0 1 ) (fun r800 v801 hr800 => ?_)
              have hr800 : IM v801 ∧ (Int32.toInt (v801 37 0 3) = Int32.toInt (v783 37 0 3)) ∧ (Int32.toInt (v801 37 0 4) = Int32.toInt (v783 37 0 4)) ∧ (Int32.toInt (v783 30 0 8) < 0 ∨ 0 ≤ Int32.toInt (v801 30 0 8)) ∧ (¬ Int32.toInt 0 = 0 ∨ 0 ≤ Int32.toInt (v801 30 0 8)) ∧ (Int32.toInt r800 = 0 ∨ (Int32.toInt r800 = Int32.toInt (v783 30 0 12) ∧ ¬ Int32.toInt 0 = 0)) := hr800
              obtain ⟨hI_v801, hr800⟩ := hr800
              have : ((v801 36 0 3).toInt = 0 ∧ (v801 36 0 4).toInt = 0) ∨ (0 < (v801 36 0 3).toInt ∧ 0 < (v801 36 0 4).toInt) := hI_v801.2.1
              have : (0 : Int) ≤ (v783 37 0 3).toInt ∧ (v783 37 0 3).toInt ≤ (6 : Int) := hI_v783.1 37 0 3
              have : (0 : Int) ≤ (v783 37 0 4).toInt ∧ (v783 37 0 4).toInt ≤ (4 : Int) := hI_v783.1 37 0 4
              have : (-1 : Int) ≤ (v783 30 0 8).toInt ∧ (v783 30 0 8).toInt ≤ (100 : Int) := hI_v783.1 30 0 8
              have : (0 : Int32).toInt = 0 := (by decide)
              have : (1 : Int32).toInt = 1 := (by decide)
              refine ok_bind (k_X8_isWell v801 hI_v801  ) (fun r803 hr803 => ?_)
              have hr803 : (0 : Int) ≤ Int32.toInt r803 ∧ Int32.toInt r803 ≤ (1 : Int) ∧ ((Int32.toInt r803 = 0 ∧ 0 ≤ Int32.toInt (v801 30 0 8)) ∨ (Int32.toInt r803 = 1 ∧ Int32.toInt (v801 30 0 8) < 0)) := hr803
              have : (-1 : Int) ≤ (v801 30 0 8).toInt ∧ (v801 30 0 8).toInt ≤ (100 : Int) := hI_v801.1 30 0 8
              refine ok_ite _ (fun c805 => ?_) (fun c805 => ?_)
              · skip
                have ic805 := i_eq c805
                have : (0 : Int32).toInt = 0 := (by decide)
                refine ok_some ?_
                show IM v801 ∧ (Int32.toInt (v801 37 0 4) = Int32.toInt (v 37 0 4)) ∧ ((Int32.toInt (v 30 0 8) < 0 ∧ Int32.toInt (v801 37 0 3) = Int32.toInt (v 37 0 3) + 1) ∨ 0 ≤ Int32.toInt (v801 30 0 8))
                refine ⟨hI_v801, ?_⟩
                omega
              · skip
                have ic805 := i_ne c805
                have : (0 : Int32).toInt = 0 := (by decide)
                refine ok_grd _ ?_ ?_
                · skip
                  exact gr (by omega) (by omega)
                refine ok_let (fun v807 ev807 => ?_)
                have hI_v807 : IM v807 := by
                  rw [ev807]
                  first | exact hI_v801.um7 (by omega) (by omega) | exact hI_v801.u07
                have := i_eq (show v807 30 0 8 = v801 30 0 8 by rw [ev807]; exact up3_t (by decide))
                have := i_eq (show v807 30 0 11 = v801 30 0 11 by rw [ev807]; exact up3_t (by decide))
                have := i_eq (show v807 30 0 12 = v801 30 0 12 by rw [ev807]; exact up3_t (by decide))
                (try have := i_eq (show v807 37 0 3 = v801 37 0 3 by rw [ev807]; exact up3_j (tcne (by omega) (by omega))))
                (try have := i_eq (show v807 37 0 4 = v801 37 0 4 by rw [ev807]; exact up3_j (tcne (by omega) (by omega))))
                have : ((v807 36 0 3).toInt = 0 ∧ (v807 36 0 4).toInt = 0) ∨ (0 < (v807 36 0 3).toInt ∧ 0 < (v807 36 0 4).toInt) := hI_v807.2.1
                refine ok_grd _ ?_ ?_
                · skip
                  have : (1 : Int32).toInt = 1 := (by decide)
                  have := i_bd x665
                  (first | have := sp_addx x665 (1 : Int32) (by omega) | obtain ⟨k594, hk594⟩ := sp_add x665 (1 : Int32))
                  exact gr (by omega) (by omega)
                refine ok_let (fun v809 ev809 => ?_)
                have : (1 : Int32).toInt = 1 := (by decide)
                have := i_bd x665
                (first | have := sp_addx x665 (1 : Int32) (by omega) | obtain ⟨k595, hk595⟩ := sp_add x665 (1 : Int32))
                have hI_v809 : IM v809 := by
                  rw [ev809]
                  first | exact hI_v807.um7 (by omega) (by omega) | exact hI_v807.u07
                have := i_eq (show v809 30 0 8 = v807 30 0 8 by rw [ev809]; exact up3_t (by decide))
                have := i_eq (show v809 30 0 11 = v807 30 0 11 by rw [ev809]; exact up3_t (by decide))
                have := i_eq (show v809 30 0 12 = v807 30 0 12 by rw [ev809]; exact up3_t (by decide))
                (try have := i_eq (show v809 37 0 3 = v807 37 0 3 by rw [ev809]; exact up3_j (tcne (by omega) (by omega))))
                (try have := i_eq (show v809 37 0 4 = v807 37 0 4 by rw [ev809]; exact up3_j (tcne (by omega) (by omega))))
                have : ((v809 36 0 3).toInt = 0 ∧ (v809 36 0 4).toInt = 0) ∨ (0 < (v809 36 0 3).toInt ∧ 0 < (v809 36 0 4).toInt) := hI_v809.2.1
                refine ok_grd _ ?_ ?_
                · skip
                  have : (2 : Int32).toInt = 2 := (by decide)
                  have := i_bd x665
                  (first | have := sp_addx x665 (2 : Int32) (by omega) | obtain ⟨k596, hk596⟩ := sp_add x665 (2 : Int32))
                  exact gr (by omega) (by omega)
                refine ok_let (fun v811 ev811 => ?_)
                have : (2 : Int32).toInt = 2 := (by decide)
                have := i_bd x665
                (first | have := sp_addx x665 (2 : Int32) (by omega) | obtain ⟨k597, hk597⟩ := sp_add x665 (2 : Int32))
                have : (97 : Int32).toInt = 97 := (by decide)
                have := i_bd r782
                (first | have := sp_subx r782 (97 : Int32) (by omega) | obtain ⟨k598, hk598⟩ := sp_sub r782 (97 : Int32))
                have hI_v811 : IM v811 := by
                  rw [ev811]
                  first | exact hI_v809.um7 (by omega) (by omega) | exact hI_v809.u07
                have := i_eq (show v811 30 0 8 = v809 30 0 8 by rw [ev811]; exact up3_t (by decide))
                have := i_eq (show v811 30 0 11 = v809 30 0 11 by rw [ev811]; exact up3_t (by decide))
                have := i_eq (show v811 30 0 12 = v809 30 0 12 by rw [ev811]; exact up3_t (by decide))
                (try have := i_eq (show v811 37 0 3 = v809 37 0 3 by rw [ev811]; exact up3_j (tcne (by omega) (by omega))))
                (try have := i_eq (show v811 37 0 4 = v809 37 0 4 by rw [ev811]; exact up3_j (tcne (by omega) (by omega))))
                have : ((v811 36 0 3).toInt = 0 ∧ (v811 36 0 4).toInt = 0) ∨ (0 < (v811 36 0 3).toInt ∧ 0 < (v811 36 0 4).toInt) := hI_v811.2.1
                refine ok_let (fun v812 ev812 => ?_)
                have hI_v812 : IM v812 := by
                  rw [ev812]
                  refine hI_v811.upo (by decide) ?_
                  show (0 : Int) ≤ Int32.toInt ((v811 37 0 3) + 1) ∧ Int32.toInt ((v811 37 0 3) + 1) ≤ (6 : Int)
                  have : (0 : Int) ≤ (v811 37 0 3).toInt ∧ (v811 37 0 3).toInt ≤ (6 : Int) := hI_v811.1 37 0 3
                  have : (1 : Int32).toInt = 1 := (by decide)
                  have := i_bd (v811 37 0 3)
                  (first | have := sp_addx (v811 37 0 3) (1 : Int32) (by omega) | obtain ⟨k599, hk599⟩ := sp_add (v811 37 0 3) (1 : Int32))
                  omega
                have := i_eq (show v812 30 0 8 = v811 30 0 8 by rw [ev812]; exact up3_t (by decide))
                have := i_eq (show v812 30 0 11 = v811 30 0 11 by rw [ev812]; exact up3_t (by decide))
                have := i_eq (show v812 30 0 12 = v811 30 0 12 by rw [ev812]; exact up3_t (by decide))
                have := i_eq (show v812 37 0 3 = ((v811 37 0 3) + 1) by rw [ev812]; exact up3_s)
                have : (0 : Int) ≤ (v811 37 0 3).toInt ∧ (v811 37 0 3).toInt ≤ (6 : Int) := hI_v811.1 37 0 3
                have : (1 : Int32).toInt = 1 := (by decide)
                have := i_bd (v811 37 0 3)
                (first | have := sp_addx (v811 37 0 3) (1 : Int32) (by omega) | obtain ⟨k600, hk600⟩ := sp_add (v811 37 0 3) (1 : Int32))
                have := i_eq (show v812 37 0 4 = v811 37 0 4 by rw [ev812]; exact up3_j (by decide))
                have : ((v812 36 0 3).toInt = 0 ∧ (v812 36 0 4).toInt = 0) ∨ (0 < (v812 36 0 3).toInt ∧ 0 < (v812 36 0 4).toInt) := hI_v812.2.1
                refine ok_some ?_
                show IM v812 ∧ (Int32.toInt (v812 37 0 4) = Int32.toInt (v 37 0 4)) ∧ ((Int32.toInt (v 30 0 8) < 0 ∧ Int32.toInt (v812 37 0 3) = Int32.toInt (v 37 0 3) + 1) ∨ 0 ≤ Int32.toInt (v812 30 0 8))
                refine ⟨hI_v812, ?_⟩
                omega
        · skip
          have ic744 := i_ne c744
          have : (0 : Int) ≤ (v671 30 0 11).toInt ∧ (v671 30 0 11).toInt ≤ (5 : Int) := hI_v671.1 30 0 11
          have : (1 : Int32).toInt = 1 := (by decide)
          refine ok_kb2 (k_X8_takes v671 hI_v671 0 1 ) (fun r814 v815 hr814 => ?_)
          have hr814 : IM v815 ∧ (Int32.toInt (v815 37 0 3) = Int32.toInt (v671 37 0 3)) ∧ (Int32.toInt (v815 37 0 4) = Int32.toInt (v671 37 0 4)) ∧ (Int32.toInt (v671 30 0 8) < 0 ∨ 0 ≤ Int32.toInt (v815 30 0 8)) ∧ (¬ Int32.toInt 0 = 0 ∨ 0 ≤ Int32.toInt (v815 30 0 8)) ∧ (Int32.toInt r814 = 0 ∨ (Int32.toInt r814 = Int32.toInt (v671 30 0 12) ∧ ¬ Int32.toInt 0 = 0)) := hr814
          obtain ⟨hI_v815, hr814⟩ := hr814
          have : ((v815 36 0 3).toInt = 0 ∧ (v815 36 0 4).toInt = 0) ∨ (0 < (v815 36 0 3).toInt ∧ 0 < (v815 36 0 4).toInt) := hI_v815.2.1
          have : (0 : Int) ≤ (v671 37 0 3).toInt ∧ (v671 37 0 3).toInt ≤ (6 : Int) := hI_v671.1 37 0 3
          have : (0 : Int) ≤ (v671 37 0 4).toInt ∧ (v671 37 0 4).toInt ≤ (4 : Int) := hI_v671.1 37 0 4
          have : (-1 : Int) ≤ (v671 30 0 8).toInt ∧ (v671 30 0 8).toInt ≤ (100 : Int) := hI_v671.1 30 0 8
          have : (0 : Int32).toInt = 0 := (by decide)
          have : (1 : Int32).toInt = 1 := (by decide)
          refine ok_bind (k_X8_isTold v815 hI_v815 r667 r670 ((v815 30 0 12) - 97) ) (fun r817 hr817 => ?_)
          have hr817 : (0 : Int) ≤ Int32.toInt r817 ∧ Int32.toInt r817 ≤ (1 : Int) := hr817
          refine ok_ite _ (fun c819 => ?_) (fun c819 => ?_)
          · skip
            have ic819 := i_eq c819
            have : (0 : Int32).toInt = 0 := (by decide)
            refine ok_kb2 (k_X8_takes v815 hI_v815 1 2 ) (fun r821 v822 hr821 => ?_)
            have hr821 : IM v822 ∧ (Int32.toInt (v822 37 0 3) = Int32.toInt (v815 37 0 3)) ∧ (Int32.toInt (v822 37 0 4) = Int32.toInt (v815 37 0 4)) ∧ (Int32.toInt (v815 30 0 8) < 0 ∨ 0 ≤ Int32.toInt (v822 30 0 8)) ∧ (¬ Int32.toInt 1 = 0 ∨ 0 ≤ Int32.toInt (v822 30 0 8)) ∧ (Int32.toInt r821 = 0 ∨ (Int32.toInt r821 = Int32.toInt (v815 30 0 12) ∧ ¬ Int32.toInt 1 = 0)) := hr821
            obtain ⟨hI_v822, hr821⟩ := hr821
            have : ((v822 36 0 3).toInt = 0 ∧ (v822 36 0 4).toInt = 0) ∨ (0 < (v822 36 0 3).toInt ∧ 0 < (v822 36 0 4).toInt) := hI_v822.2.1
            have : (0 : Int) ≤ (v815 37 0 3).toInt ∧ (v815 37 0 3).toInt ≤ (6 : Int) := hI_v815.1 37 0 3
            have : (0 : Int) ≤ (v815 37 0 4).toInt ∧ (v815 37 0 4).toInt ≤ (4 : Int) := hI_v815.1 37 0 4
            have : (-1 : Int) ≤ (v815 30 0 8).toInt ∧ (v815 30 0 8).toInt ≤ (100 : Int) := hI_v815.1 30 0 8
            have : (1 : Int32).toInt = 1 := (by decide)
            have : (2 : Int32).toInt = 2 := (by decide)
            refine ok_ite _ (fun c823 => ?_) (fun c823 => ?_)
            · skip
              have ic823 := i_eq c823
              have : (0 : Int) ≤ (v822 30 0 11).toInt ∧ (v822 30 0 11).toInt ≤ (5 : Int) := hI_v822.1 30 0 11
              have : (4 : Int32).toInt = 4 := (by decide)
              refine ok_kb2 (k_X8_takes v822 hI_v822 1 1 ) (fun r825 v826 hr825 => ?_)
              have hr825 : IM v826 ∧ (Int32.toInt (v826 37 0 3) = Int32.toInt (v822 37 0 3)) ∧ (Int32.toInt (v826 37 0 4) = Int32.toInt (v822 37 0 4)) ∧ (Int32.toInt (v822 30 0 8) < 0 ∨ 0 ≤ Int32.toInt (v826 30 0 8)) ∧ (¬ Int32.toInt 1 = 0 ∨ 0 ≤ Int32.toInt (v826 30 0 8)) ∧ (Int32.toInt r825 = 0 ∨ (Int32.toInt r825 = Int32.toInt (v822 30 0 12) ∧ ¬ Int32.toInt 1 = 0)) := hr825
              obtain ⟨hI_v826, hr825⟩ := hr825
              have : ((v826 36 0 3).toInt = 0 ∧ (v826 36 0 4).toInt = 0) ∨ (0 < (v826 36 0 3).toInt ∧ 0 < (v826 36 0 4).toInt) := hI_v826.2.1
              have : (0 : Int) ≤ (v822 37 0 3).toInt ∧ (v822 37 0 3).toInt ≤ (6 : Int) := hI_v822.1 37 0 3
              have : (0 : Int) ≤ (v822 37 0 4).toInt ∧ (v822 37 0 4).toInt ≤ (4 : Int) := hI_v822.1 37 0 4
              have : (-1 : Int) ≤ (v822 30 0 8).toInt ∧ (v822 30 0 8).toInt ≤ (100 : Int) := hI_v822.1 30 0 8
              have : (1 : Int32).toInt = 1 := (by decide)
              refine ok_bind (k_X8_isWell v826 hI_v826  ) (fun r828 hr828 => ?_)
              have hr828 : (0 : Int) ≤ Int32.toInt r828 ∧ Int32.toInt r828 ≤ (1 : Int) ∧ ((Int32.toInt r828 = 0 ∧ 0 ≤ Int32.toInt (v826 30 0 8)) ∨ (Int32.toInt r828 = 1 ∧ Int32.toInt (v826 30 0 8) < 0)) := hr828
              have : (-1 : Int) ≤ (v826 30 0 8).toInt ∧ (v826 30 0 8).toInt ≤ (100 : Int) := hI_v826.1 30 0 8
              refine ok_ite _ (fun c830 => ?_) (fun c830 => ?_)
              · skip
                have ic830 := i_eq c830
                have : (0 : Int32).toInt = 0 := (by decide)
                refine ok_some ?_
                show IM v826 ∧ (Int32.toInt (v826 37 0 4) = Int32.toInt (v 37 0 4)) ∧ ((Int32.toInt (v 30 0 8) < 0 ∧ Int32.toInt (v826 37 0 3) = Int32.toInt (v 37 0 3) + 1) ∨ 0 ≤ Int32.toInt (v826 30 0 8))
                refine ⟨hI_v826, ?_⟩
                omega
              · skip
                have ic830 := i_ne c830
                have : (0 : Int32).toInt = 0 := (by decide)
                refine ok_grd _ ?_ ?_
                · skip
                  exact gr (by omega) (by omega)
                refine ok_let (fun v832 ev832 => ?_)
                have hI_v832 : IM v832 := by
                  rw [ev832]
                  first | exact hI_v826.um7 (by omega) (by omega) | exact hI_v826.u07
                have := i_eq (show v832 30 0 8 = v826 30 0 8 by rw [ev832]; exact up3_t (by decide))
                have := i_eq (show v832 30 0 11 = v826 30 0 11 by rw [ev832]; exact up3_t (by decide))
                have := i_eq (show v832 30 0 12 = v826 30 0 12 by rw [ev832]; exact up3_t (by decide))
                (try have := i_eq (show v832 37 0 3 = v826 37 0 3 by rw [ev832]; exact up3_j (tcne (by omega) (by omega))))
                (try have := i_eq (show v832 37 0 4 = v826 37 0 4 by rw [ev832]; exact up3_j (tcne (by omega) (by omega))))
                have : ((v832 36 0 3).toInt = 0 ∧ (v832 36 0 4).toInt = 0) ∨ (0 < (v832 36 0 3).toInt ∧ 0 < (v832 36 0 4).toInt) := hI_v832.2.1
                refine ok_grd _ ?_ ?_
                · skip
                  have : (1 : Int32).toInt = 1 := (by decide)
                  have := i_bd x665
                  (first | have := sp_addx x665 (1 : Int32) (by omega) | obtain ⟨k601, hk601⟩ := sp_add x665 (1 : Int32))
                  exact gr (by omega) (by omega)
                refine ok_let (fun v834 ev834 => ?_)
                have : (1 : Int32).toInt = 1 := (by decide)
                have := i_bd x665
                (first | have := sp_addx x665 (1 : Int32) (by omega) | obtain ⟨k602, hk602⟩ := sp_add x665 (1 : Int32))
                have hI_v834 : IM v834 := by
                  rw [ev834]
                  first | exact hI_v832.um7 (by omega) (by omega) | exact hI_v832.u07
                have := i_eq (show v834 30 0 8 = v832 30 0 8 by rw [ev834]; exact up3_t (by decide))
                have := i_eq (show v834 30 0 11 = v832 30 0 11 by rw [ev834]; exact up3_t (by decide))
                have := i_eq (show v834 30 0 12 = v832 30 0 12 by rw [ev834]; exact up3_t (by decide))
                (try have := i_eq (show v834 37 0 3 = v832 37 0 3 by rw [ev834]; exact up3_j (tcne (by omega) (by omega))))
                (try have := i_eq (show v834 37 0 4 = v832 37 0 4 by rw [ev834]; exact up3_j (tcne (by omega) (by omega))))
                have : ((v834 36 0 3).toInt = 0 ∧ (v834 36 0 4).toInt = 0) ∨ (0 < (v834 36 0 3).toInt ∧ 0 < (v834 36 0 4).toInt) := hI_v834.2.1
                refine ok_grd _ ?_ ?_
                · skip
                  have : (2 : Int32).toInt = 2 := (by decide)
                  have := i_bd x665
                  (first | have := sp_addx x665 (2 : Int32) (by omega) | obtain ⟨k603, hk603⟩ := sp_add x665 (2 : Int32))
                  exact gr (by omega) (by omega)
                refine ok_let (fun v836 ev836 => ?_)
                have : (2 : Int32).toInt = 2 := (by decide)
                have := i_bd x665
                (first | have := sp_addx x665 (2 : Int32) (by omega) | obtain ⟨k604, hk604⟩ := sp_add x665 (2 : Int32))
                have : (97 : Int32).toInt = 97 := (by decide)
                have := i_bd r821
                (first | have := sp_subx r821 (97 : Int32) (by omega) | obtain ⟨k605, hk605⟩ := sp_sub r821 (97 : Int32))
                have hI_v836 : IM v836 := by
                  rw [ev836]
                  first | exact hI_v834.um7 (by omega) (by omega) | exact hI_v834.u07
                have := i_eq (show v836 30 0 8 = v834 30 0 8 by rw [ev836]; exact up3_t (by decide))
                have := i_eq (show v836 30 0 11 = v834 30 0 11 by rw [ev836]; exact up3_t (by decide))
                have := i_eq (show v836 30 0 12 = v834 30 0 12 by rw [ev836]; exact up3_t (by decide))
                (try have := i_eq (show v836 37 0 3 = v834 37 0 3 by rw [ev836]; exact up3_j (tcne (by omega) (by omega))))
                (try have := i_eq (show v836 37 0 4 = v834 37 0 4 by rw [ev836]; exact up3_j (tcne (by omega) (by omega))))
                have : ((v836 36 0 3).toInt = 0 ∧ (v836 36 0 4).toInt = 0) ∨ (0 < (v836 36 0 3).toInt ∧ 0 < (v836 36 0 4).toInt) := hI_v836.2.1
                refine ok_let (fun v837 ev837 => ?_)
                have hI_v837 : IM v837 := by
                  rw [ev837]
                  refine hI_v836.upo (by decide) ?_
                  show (0 : Int) ≤ Int32.toInt ((v836 37 0 3) + 1) ∧ Int32.toInt ((v836 37 0 3) + 1) ≤ (6 : Int)
                  have : (0 : Int) ≤ (v836 37 0 3).toInt ∧ (v836 37 0 3).toInt ≤ (6 : Int) := hI_v836.1 37 0 3
                  have : (1 : Int32).toInt = 1 := (by decide)
                  have := i_bd (v836 37 0 3)
                  (first | have := sp_addx (v836 37 0 3) (1 : Int32) (by omega) | obtain ⟨k606, hk606⟩ := sp_add (v836 37 0 3) (1 : Int32))
                  omega
                have := i_eq (show v837 30 0 8 = v836 30 0 8 by rw [ev837]; exact up3_t (by decide))
                have := i_eq (show v837 30 0 11 = v836 30 0 11 by rw [ev837]; exact up3_t (by decide))
                have := i_eq (show v837 30 0 12 = v836 30 0 12 by rw [ev837]; exact up3_t (by decide))
                have := i_eq (show v837 37 0 3 = ((v836 37 0 3) + 1) by rw [ev837]; exact up3_s)
                have : (0 : Int) ≤ (v836 37 0 3).toInt ∧ (v836 37 0 3).toInt ≤ (6 : Int) := hI_v836.1 37 0 3
                have : (1 : Int32).toInt = 1 := (by decide)
                have := i_bd (v836 37 0 3)
                (first | have := sp_addx (v836 37 0 3) (1 : Int32) (by omega) | obtain ⟨k607, hk607⟩ := sp_add (v836 37 0 3) (1 : Int32))
                have := i_eq (show v837 37 0 4 = v836 37 0 4 by rw [ev837]; exact up3_j (by decide))
                have : ((v837 36 0 3).toInt = 0 ∧ (v837 36 0 4).toInt = 0) ∨ (0 < (v837 36 0 3).toInt ∧ 0 < (v837 36 0 4).toInt) := hI_v837.2.1
                refine ok_some ?_
                show IM v837 ∧ (Int32.toInt (v837 37 0 4) = Int32.toInt (v 37 0 4)) ∧ ((Int32.toInt (v 30 0 8) < 0 ∧ Int32.toInt (v837 37 0 3) = Int32.toInt (v 37 0 3) + 1) ∨ 0 ≤ Int32.toInt (v837 30 0 8))
                refine ⟨hI_v837, ?_⟩
                omega
            · skip
              have ic823 := i_ne c823
              have : (0 : Int) ≤ (v822 30 0 11).toInt ∧ (v822 30 0 11).toInt ≤ (5 : Int) := hI_v822.1 30 0 11
              have : (4 : Int32).toInt = 4 := (by decide)
              refine ok_kb2 (k_X8_takes v822 hI_v822 0 1 ) (fun r839 v840 hr839 => ?_)
              have hr839 : IM v840 ∧ (Int32.toInt (v840 37 0 3) = Int32.toInt (v822 37 0 3)) ∧ (Int32.toInt (v840 37 0 4) = Int32.toInt (v822 37 0 4)) ∧ (Int32.toInt (v822 30 0 8) < 0 ∨ 0 ≤ Int32.toInt (v840 30 0 8)) ∧ (¬ Int32.toInt 0 = 0 ∨ 0 ≤ Int32.toInt (v840 30 0 8)) ∧ (Int32.toInt r839 = 0 ∨ (Int32.toInt r839 = Int32.toInt (v822 30 0 12) ∧ ¬ Int32.toInt 0 = 0)) := hr839
              obtain ⟨hI_v840, hr839⟩ := hr839
              have : ((v840 36 0 3).toInt = 0 ∧ (v840 36 0 4).toInt = 0) ∨ (0 < (v840 36 0 3).toInt ∧ 0 < (v840 36 0 4).toInt) := hI_v840.2.1
              have : (0 : Int) ≤ (v822 37 0 3).toInt ∧ (v822 37 0 3).toInt ≤ (6 : Int) := hI_v822.1 37 0 3
              have : (0 : Int) ≤ (v822 37 0 4).toInt ∧ (v822 37 0 4).toInt ≤ (4 : Int) := hI_v822.1 37 0 4
              have : (-1 : Int) ≤ (v822 30 0 8).toInt ∧ (v822 30 0 8).toInt ≤ (100 : Int) := hI_v822.1 30 0 8
              have : (0 : Int32).toInt = 0 := (by decide)
              have : (1 : Int32).toInt = 1 := (by decide)
              refine ok_bind (k_X8_isWell v840 hI_v840  ) (fun r842 hr842 => ?_)
              have hr842 : (0 : Int) ≤ Int32.toInt r842 ∧ Int32.toInt r842 ≤ (1 : Int) ∧ ((Int32.toInt r842 = 0 ∧ 0 ≤ Int32.toInt (v840 30 0 8)) ∨ (Int32.toInt r842 = 1 ∧ Int32.toInt (v840 30 0 8) < 0)) := hr842
              have : (-1 : Int) ≤ (v840 30 0 8).toInt ∧ (v840 30 0 8).toInt ≤ (100 : Int) := hI_v840.1 30 0 8
              refine ok_ite _ (fun c844 => ?_) (fun c844 => ?_)
              · skip
                have ic844 := i_eq c844
                have : (0 : Int32).toInt = 0 := (by decide)
                refine ok_some ?_
                show IM v840 ∧ (Int32.toInt (v840 37 0 4) = Int32.toInt (v 37 0 4)) ∧ ((Int32.toInt (v 30 0 8) < 0 ∧ Int32.toInt (v840 37 0 3) = Int32.toInt (v 37 0 3) + 1) ∨ 0 ≤ Int32.toInt (v840 30 0 8))
                refine ⟨hI_v840, ?_⟩
                omega
              · skip
                have ic844 := i_ne c844
                have : (0 : Int32).toInt = 0 := (by decide)
                refine ok_grd _ ?_ ?_
                · skip
                  exact gr (by omega) (by omega)
                refine ok_let (fun v846 ev846 => ?_)
                have hI_v846 : IM v846 := by
                  rw [ev846]
                  first | exact hI_v840.um7 (by omega) (by omega) | exact hI_v840.u07
                have := i_eq (show v846 30 0 8 = v840 30 0 8 by rw [ev846]; exact up3_t (by decide))
                have := i_eq (show v846 30 0 11 = v840 30 0 11 by rw [ev846]; exact up3_t (by decide))
                have := i_eq (show v846 30 0 12 = v840 30 0 12 by rw [ev846]; exact up3_t (by decide))
                (try have := i_eq (show v846 37 0 3 = v840 37 0 3 by rw [ev846]; exact up3_j (tcne (by omega) (by omega))))
                (try have := i_eq (show v846 37 0 4 = v840 37 0 4 by rw [ev846]; exact up3_j (tcne (by omega) (by omega))))
                have : ((v846 36 0 3).toInt = 0 ∧ (v846 36 0 4).toInt = 0) ∨ (0 < (v846 36 0 3).toInt ∧ 0 < (v846 36 0 4).toInt) := hI_v846.2.1
                refine ok_grd _ ?_ ?_
                · skip
                  have : (1 : Int32).toInt = 1 := (by decide)
                  have := i_bd x665
                  (first | have := sp_addx x665 (1 : Int32) (by omega) | obtain ⟨k608, hk608⟩ := sp_add x665 (1 : Int32))
                  exact gr (by omega) (by omega)
                refine ok_let (fun v848 ev848 => ?_)
                have : (1 : Int32).toInt = 1 := (by decide)
                have := i_bd x665
                (first | have := sp_addx x665 (1 : Int32) (by omega) | obtain ⟨k609, hk609⟩ := sp_add x665 (1 : Int32))
                have hI_v848 : IM v848 := by
                  rw [ev848]
                  first | exact hI_v846.um7 (by omega) (by omega) | exact hI_v846.u07
                have := i_eq (show v848 30 0 8 = v846 30 0 8 by rw [ev848]; exact up3_t (by decide))
                have := i_eq (show v848 30 0 11 = v846 30 0 11 by rw [ev848]; exact up3_t (by decide))
                have := i_eq (show v848 30 0 12 = v846 30 0 12 by rw [ev848]; exact up3_t (by decide))
                (try have := i_eq (show v848 37 0 3 = v846 37 0 3 by rw [ev848]; exact up3_j (tcne (by omega) (by omega))))
                (try have := i_eq (show v848 37 0 4 = v846 37 0 4 by rw [ev848]; exact up3_j (tcne (by omega) (by omega))))
                have : ((v848 36 0 3).toInt = 0 ∧ (v848 36 0 4).toInt = 0) ∨ (0 < (v848 36 0 3).toInt ∧ 0 < (v848 36 0 4).toInt) := hI_v848.2.1
                refine ok_grd _ ?_ ?_
                · skip
                  have : (2 : Int32).toInt = 2 := (by decide)
                  have := i_bd x665
                  (first | have := sp_addx x665 (2 : Int32) (by omega) | obtain ⟨k610, hk610⟩ := sp_add x665 (2 : Int32))
                  exact gr (by omega) (by omega)
                refine ok_let (fun v850 ev850 => ?_)
                have : (2 : Int32).toInt = 2 := (by decide)
                have := i_bd x665
                (first | have := sp_addx x665 (2 : Int32) (by omega) | obtain ⟨k611, hk611⟩ := sp_add x665 (2 : Int32))
                have : (97 : Int32).toInt = 97 := (by decide)
                have := i_bd r821
                (first | have := sp_subx r821 (97 : Int32) (by omega) | obtain ⟨k612, hk612⟩ := sp_sub r821 (97 : Int32))
                have hI_v850 : IM v850 := by
                  rw [ev850]
                  first | exact hI_v848.um7 (by omega) (by omega) | exact hI_v848.u07
                have := i_eq (show v850 30 0 8 = v848 30 0 8 by rw [ev850]; exact up3_t (by decide))
                have := i_eq (show v850 30 0 11 = v848 30 0 11 by rw [ev850]; exact up3_t (by decide))
                have := i_eq (show v850 30 0 12 = v848 30 0 12 by rw [ev850]; exact up3_t (by decide))
                (try have := i_eq (show v850 37 0 3 = v848 37 0 3 by rw [ev850]; exact up3_j (tcne (by omega) (by omega))))
                (try have := i_eq (show v850 37 0 4 = v848 37 0 4 by rw [ev850]; exact up3_j (tcne (by omega) (by omega))))
                have : ((v850 36 0 3).toInt = 0 ∧ (v850 36 0 4).toInt = 0) ∨ (0 < (v850 36 0 3).toInt ∧ 0 < (v850 36 0 4).toInt) := hI_v850.2.1
                refine ok_let (fun v851 ev851 => ?_)
                have hI_v851 : IM v851 := by
                  rw [ev851]
                  refine hI_v850.upo (by decide) ?_
                  show (0 : Int) ≤ Int32.toInt ((v850 37 0 3) + 1) ∧ Int32.toInt ((v850 37 0 3) + 1) ≤ (6 : Int)
                  have : (0 : Int) ≤ (v850 37 0 3).toInt ∧ (v850 37 0 3).toInt ≤ (6 : Int) := hI_v850.1 37 0 3
                  have : (1 : Int32).toInt = 1 := (by decide)
                  have := i_bd (v850 37 0 3)
                  (first | have := sp_addx (v850 37 0 3) (1 : Int32) (by omega) | obtain ⟨k613, hk613⟩ := sp_add (v850 37 0 3) (1 : Int32))
                  omega
                have := i_eq (show v851 30 0 8 = v850 30 0 8 by rw [ev851]; exact up3_t (by decide))
                have := i_eq (show v851 30 0 11 = v850 30 0 11 by rw [ev851]; exact up3_t (by decide))
                have := i_eq (show v851 30 0 12 = v850 30 0 12 by rw [ev851]; exact up3_t (by decide))
                have := i_eq (show v851 37 0 3 = ((v850 37 0 3) + 1) by rw [ev851]; exact up3_s)
                have : (0 : Int) ≤ (v850 37 0 3).toInt ∧ (v850 37 0 3).toInt ≤ (6 : Int) := hI_v850.1 37 0 3
                have : (1 : Int32).toInt = 1 := (by decide)
                have := i_bd (v850 37 0 3)
                (first | have := sp_addx (v850 37 0 3) (1 : Int32) (by omega) | obtain ⟨k614, hk614⟩ := sp_add (v850 37 0 3) (1 : Int32))
                have := i_eq (show v851 37 0 4 = v850 37 0 4 by rw [ev851]; exact up3_j (by decide))
                have : ((v851 36 0 3).toInt = 0 ∧ (v851 36 0 4).toInt = 0) ∨ (0 < (v851 36 0 3).toInt ∧ 0 < (v851 36 0 4).toInt) := hI_v851.2.1
                refine ok_some ?_
                show IM v851 ∧ (Int32.toInt (v851 37 0 4) = Int32.toInt (v 37 0 4)) ∧ ((Int32.toInt (v 30 0 8) < 0 ∧ Int32.toInt (v851 37 0 3) = Int32.toInt (v 37 0 3) + 1) ∨ 0 ≤ Int32.toInt (v851 30 0 8))
                refine ⟨hI_v851, ?_⟩
                omega
          · skip
            have ic819 := i_ne c819
            have : (0 : Int32).toInt = 0 := (by decide)
            refine ok_kb2 (k_X8_takes v815 hI_v815 0 2 ) (fun r853 v854 hr853 => ?_)
            have hr853 : IM v854 ∧ (Int32.toInt (v854 37 0 3) = Int32.toInt (v815 37 0 3)) ∧ (Int32.toInt (v854 37 0 4) = Int32.toInt (v815 37 0 4)) ∧ (Int32.toInt (v815 30 0 8) < 0 ∨ 0 ≤ Int32.toInt (v854 30 0 8)) ∧ (¬ Int32.toInt 0 = 0 ∨ 0 ≤ Int32.toInt (v854 30 0 8)) ∧ (Int32.toInt r853 = 0 ∨ (Int32.toInt r853 = Int32.toInt (v815 30 0 12) ∧ ¬ Int32.toInt 0 = 0)) := hr853
            obtain ⟨hI_v854, hr853⟩ := hr853
            have : ((v854 36 0 3).toInt = 0 ∧ (v854 36 0 4).toInt = 0) ∨ (0 < (v854 36 0 3).toInt ∧ 0 < (v854 36 0 4).toInt) := hI_v854.2.1
            have : (0 : Int) ≤ (v815 37 0 3).toInt ∧ (v815 37 0 3).toInt ≤ (6 : Int) := hI_v815.1 37 0 3
            have : (0 : Int) ≤ (v815 37 0 4).toInt ∧ (v815 37 0 4).toInt ≤ (4 : Int) := hI_v815.1 37 0 4
            have : (-1 : Int) ≤ (v815 30 0 8).toInt ∧ (v815 30 0 8).toInt ≤ (100 : Int) := hI_v815.1 30 0 8
            have : (0 : Int32).toInt = 0 := (by decide)
            have : (2 : Int32).toInt = 2 := (by decide)
            refine ok_ite _ (fun c855 => ?_) (fun c855 => ?_)
            · skip
              have ic855 := i_eq c855
              have : (0 : Int) ≤ (v854 30 0 11).toInt ∧ (v854 30 0 11).toInt ≤ (5 : Int) := hI_v854.1 30 0 11
              have : (4 : Int32).toInt = 4 := (by decide)
              refine ok_kb2 (k_X8_takes v854 hI_v854 1 1 ) (fun r857 v858 hr857 => ?_)
              have hr857 : IM v858 ∧ (Int32.toInt (v858 37 0 3) = Int32.toInt (v854 37 0 3)) ∧ (Int32.toInt (v858 37 0 4) = Int32.toInt (v854 37 0 4)) ∧ (Int32.toInt (v854 30 0 8) < 0 ∨ 0 ≤ Int32.toInt (v858 30 0 8)) ∧ (¬ Int32.toInt 1 = 0 ∨ 0 ≤ Int32.toInt (v858 30 0 8)) ∧ (Int32.toInt r857 = 0 ∨ (Int32.toInt r857 = Int32.toInt (v854 30 0 12) ∧ ¬ Int32.toInt 1 = 0)) := hr857
              obtain ⟨hI_v858, hr857⟩ := hr857
              have : ((v858 36 0 3).toInt = 0 ∧ (v858 36 0 4).toInt = 0) ∨ (0 < (v858 36 0 3).toInt ∧ 0 < (v858 36 0 4).toInt) := hI_v858.2.1
              have : (0 : Int) ≤ (v854 37 0 3).toInt ∧ (v854 37 0 3).toInt ≤ (6 : Int) := hI_v854.1 37 0 3
              have : (0 : Int) ≤ (v854 37 0 4).toInt ∧ (v854 37 0 4).toInt ≤ (4 : Int) := hI_v854.1 37 0 4
              have : (-1 : Int) ≤ (v854 30 0 8).toInt ∧ (v854 30 0 8).toInt ≤ (100 : Int) := hI_v854.1 30 0 8
              have : (1 : Int32).toInt = 1 := (by decide)
              refine ok_bind (k_X8_isWell v858 hI_v858  ) (fun r860 hr860 => ?_)
              have hr860 : (0 : Int) ≤ Int32.toInt r860 ∧ Int32.toInt r860 ≤ (1 : Int) ∧ ((Int32.toInt r860 = 0 ∧ 0 ≤ Int32.toInt (v858 30 0 8)) ∨ (Int32.toInt r860 = 1 ∧ Int32.toInt (v858 30 0 8) < 0)) := hr860
              have : (-1 : Int) ≤ (v858 30 0 8).toInt ∧ (v858 30 0 8).toInt ≤ (100 : Int) := hI_v858.1 30 0 8
              refine ok_ite _ (fun c862 => ?_) (fun c862 => ?_)
              · skip
                have ic862 := i_eq c862
                have : (0 : Int32).toInt = 0 := (by decide)
                refine ok_some ?_
                show IM v858 ∧ (Int32.toInt (v858 37 0 4) = Int32.toInt (v 37 0 4)) ∧ ((Int32.toInt (v 30 0 8) < 0 ∧ Int32.toInt (v858 37 0 3) = Int32.toInt (v 37 0 3) + 1) ∨ 0 ≤ Int32.toInt (v858 30 0 8))
                refine ⟨hI_v858, ?_⟩
                omega
              · skip
                have ic862 := i_ne c862
                have : (0 : Int32).toInt = 0 := (by decide)
                refine ok_grd _ ?_ ?_
                · skip
                  exact gr (by omega) (by omega)
                refine ok_let (fun v864 ev864 => ?_)
                have hI_v864 : IM v864 := by
                  rw [ev864]
                  first | exact hI_v858.um7 (by omega) (by omega) | exact hI_v858.u07
                have := i_eq (show v864 30 0 8 = v858 30 0 8 by rw [ev864]; exact up3_t (by decide))
                have := i_eq (show v864 30 0 11 = v858 30 0 11 by rw [ev864]; exact up3_t (by decide))
                have := i_eq (show v864 30 0 12 = v858 30 0 12 by rw [ev864]; exact up3_t (by decide))
                (try have := i_eq (show v864 37 0 3 = v858 37 0 3 by rw [ev864]; exact up3_j (tcne (by omega) (by omega))))
                (try have := i_eq (show v864 37 0 4 = v858 37 0 4 by rw [ev864]; exact up3_j (tcne (by omega) (by omega))))
                have : ((v864 36 0 3).toInt = 0 ∧ (v864 36 0 4).toInt = 0) ∨ (0 < (v864 36 0 3).toInt ∧ 0 < (v864 36 0 4).toInt) := hI_v864.2.1
                refine ok_grd _ ?_ ?_
                · skip
                  have : (1 : Int32).toInt = 1 := (by decide)
                  have := i_bd x665
                  (first | have := sp_addx x665 (1 : Int32) (by omega) | obtain ⟨k615, hk615⟩ := sp_add x665 (1 : Int32))
                  exact gr (by omega) (by omega)
                refine ok_let (fun v866 ev866 => ?_)
                have : (1 : Int32).toInt = 1 := (by decide)
                have := i_bd x665
                (first | have := sp_addx x665 (1 : Int32) (by omega) | obtain ⟨k616, hk616⟩ := sp_add x665 (1 : Int32))
                have hI_v866 : IM v866 := by
                  rw [ev866]
                  first | exact hI_v864.um7 (by omega) (by omega) | exact hI_v864.u07
                have := i_eq (show v866 30 0 8 = v864 30 0 8 by rw [ev866]; exact up3_t (by decide))
                have := i_eq (show v866 30 0 11 = v864 30 0 11 by rw [ev866]; exact up3_t (by decide))
                have := i_eq (show v866 30 0 12 = v864 30 0 12 by rw [ev866]; exact up3_t (by decide))
                (try have := i_eq (show v866 37 0 3 = v864 37 0 3 by rw [ev866]; exact up3_j (tcne (by omega) (by omega))))
                (try have := i_eq (show v866 37 0 4 = v864 37 0 4 by rw [ev866]; exact up3_j (tcne (by omega) (by omega))))
                have : ((v866 36 0 3).toInt = 0 ∧ (v866 36 0 4).toInt = 0) ∨ (0 < (v866 36 0 3).toInt ∧ 0 < (v866 36 0 4).toInt) := hI_v866.2.1
                refine ok_grd _ ?_ ?_
                · skip
                  have : (2 : Int32).toInt = 2 := (by decide)
                  have := i_bd x665
                  (first | have := sp_addx x665 (2 : Int32) (by omega) | obtain ⟨k617, hk617⟩ := sp_add x665 (2 : Int32))
                  exact gr (by omega) (by omega)
                refine ok_let (fun v868 ev868 => ?_)
                have : (2 : Int32).toInt = 2 := (by decide)
                have := i_bd x665
                (first | have := sp_addx x665 (2 : Int32) (by omega) | obtain ⟨k618, hk618⟩ := sp_add x665 (2 : Int32))
                have : (97 : Int32).toInt = 97 := (by decide)
                have := i_bd r853
                (first | have := sp_subx r853 (97 : Int32) (by omega) | obtain ⟨k619, hk619⟩ := sp_sub r853 (97 : Int32))
                have hI_v868 : IM v868 := by
                  rw [ev868]
                  first | exact hI_v866.um7 (by omega) (by omega) | exact hI_v866.u07
                have := i_eq (show v868 30 0 8 = v866 30 0 8 by rw [ev868]; exact up3_t (by decide))
                have := i_eq (show v868 30 0 11 = v866 30 0 11 by rw [ev868]; exact up3_t (by decide))
                have := i_eq (show v868 30 0 12 = v866 30 0 12 by rw [ev868]; exact up3_t (by decide))
                (try have := i_eq (show v868 37 0 3 = v866 37 0 3 by rw [ev868]; exact up3_j (tcne (by omega) (by omega))))
                (try have := i_eq (show v868 37 0 4 = v866 37 0 4 by rw [ev868]; exact up3_j (tcne (by omega) (by omega))))
                have : ((v868 36 0 3).toInt = 0 ∧ (v868 36 0 4).toInt = 0) ∨ (0 < (v868 36 0 3).toInt ∧ 0 < (v868 36 0 4).toInt) := hI_v868.2.1
                refine ok_let (fun v869 ev869 => ?_)
                have hI_v869 : IM v869 := by
                  rw [ev869]
                  refine hI_v868.upo (by decide) ?_
                  show (0 : Int) ≤ Int32.toInt ((v868 37 0 3) + 1) ∧ Int32.toInt ((v868 37 0 3) + 1) ≤ (6 : Int)
                  have : (0 : Int) ≤ (v868 37 0 3).toInt ∧ (v868 37 0 3).toInt ≤ (6 : Int) := hI_v868.1 37 0 3
                  have : (1 : Int32).toInt = 1 := (by decide)
                  have := i_bd (v868 37 0 3)
                  (first | have := sp_addx (v868 37 0 3) (1 : Int32) (by omega) | obtain ⟨k620, hk620⟩ := sp_add (v868 37 0 3) (1 : Int32))
                  omega
                have := i_eq (show v869 30 0 8 = v868 30 0 8 by rw [ev869]; exact up3_t (by decide))
                have := i_eq (show v869 30 0 11 = v868 30 0 11 by rw [ev869]; exact up3_t (by decide))
                have := i_eq (show v869 30 0 12 = v868 30 0 12 by rw [ev869]; exact up3_t (by decide))
                have := i_eq (show v869 37 0 3 = ((v868 37 0 3) + 1) by rw [ev869]; exact up3_s)
                have : (0 : Int) ≤ (v868 37 0 3).toInt ∧ (v868 37 0 3).toInt ≤ (6 : Int) := hI_v868.1 37 0 3
                have : (1 : Int32).toInt = 1 := (by decide)
                have := i_bd (v868 37 0 3)
                (first | have := sp_addx (v868 37 0 3) (1 : Int32) (by omega) | obtain ⟨k621, hk621⟩ := sp_add (v868 37 0 3) (1 : Int32))
                have := i_eq (show v869 37 0 4 = v868 37 0 4 by rw [ev869]; exact up3_j (by decide))
                have : ((v869 36 0 3).toInt = 0 ∧ (v869 36 0 4).toInt = 0) ∨ (0 < (v869 36 0 3).toInt ∧ 0 < (v869 36 0 4).toInt) := hI_v869.2.1
                refine ok_some ?_
                show IM v869 ∧ (Int32.toInt (v869 37 0 4) = Int32.toInt (v 37 0 4)) ∧ ((Int32.toInt (v 30 0 8) < 0 ∧ Int32.toInt (v869 37 0 3) = Int32.toInt (v 37 0 3) + 1) ∨ 0 ≤ Int32.toInt (v869 30 0 8))
                refine ⟨hI_v869, ?_⟩
                omega
            · skip
              have ic855 := i_ne c855
              have : (0 : Int) ≤ (v854 30 0 11).toInt ∧ (v854 30 0 11).toInt ≤ (5 : Int) := hI_v854.1 30 0 11
              have : (4 : Int32).toInt = 4 := (by decide)
              refine ok_kb2 (k_X8_takes v854 hI_v854 0 1 ) (fun r871 v872 hr871 => ?_)
              have hr871 : IM v872 ∧ (Int32.toInt (v872 37 0 3) = Int32.toInt (v854 37 0 3)) ∧ (Int32.toInt (v872 37 0 4) = Int32.toInt (v854 37 0 4)) ∧ (Int32.toInt (v854 30 0 8) < 0 ∨ 0 ≤ Int32.toInt (v872 30 0 8)) ∧ (¬ Int32.toInt 0 = 0 ∨ 0 ≤ Int32.toInt (v872 30 0 8)) ∧ (Int32.toInt r871 = 0 ∨ (Int32.toInt r871 = Int32.toInt (v854 30 0 12) ∧ ¬ Int32.toInt 0 = 0)) := hr871
              obtain ⟨hI_v872, hr871⟩ := hr871
              have : ((v872 36 0 3).toInt = 0 ∧ (v872 36 0 4).toInt = 0) ∨ (0 < (v872 36 0 3).toInt ∧ 0 < (v872 36 0 4).toInt) := hI_v872.2.1
              have : (0 : Int) ≤ (v854 37 0 3).toInt ∧ (v854 37 0 3).toInt ≤ (6 : Int) := hI_v854.1 37 0 3
              have : (0 : Int) ≤ (v854 37 0 4).toInt ∧ (v854 37 0 4).toInt ≤ (4 : Int) := hI_v854.1 37 0 4
              have : (-1 : Int) ≤ (v854 30 0 8).toInt ∧ (v854 30 0 8).toInt ≤ (100 : Int) := hI_v854.1 30 0 8
              have : (0 : Int32).toInt = 0 := (by decide)
              have : (1 : Int32).toInt = 1 := (by decide)
              refine ok_bind (k_X8_isWell v872 hI_v872  ) (fun r874 hr874 => ?_)
              have hr874 : (0 : Int) ≤ Int32.toInt r874 ∧ Int32.toInt r874 ≤ (1 : Int) ∧ ((Int32.toInt r874 = 0 ∧ 0 ≤ Int32.toInt (v872 30 0 8)) ∨ (Int32.toInt r874 = 1 ∧ Int32.toInt (v872 30 0 8) < 0)) := hr874
              have : (-1 : Int) ≤ (v872 30 0 8).toInt ∧ (v872 30 0 8).toInt ≤ (100 : Int) := hI_v872.1 30 0 8
              refine ok_ite _ (fun c876 => ?_) (fun c876 => ?_)
              · skip
                have ic876 := i_eq c876
                have : (0 : Int32).toInt = 0 := (by decide)
                refine ok_some ?_
                show IM v872 ∧ (Int32.toInt (v872 37 0 4) = Int32.toInt (v 37 0 4)) ∧ ((Int32.toInt (v 30 0 8) < 0 ∧ Int32.toInt (v872 37 0 3) = Int32.toInt (v 37 0 3) + 1) ∨ 0 ≤ Int32.toInt (v872 30 0 8))
                refine ⟨hI_v872, ?_⟩
                omega
              · skip
                have ic876 := i_ne c876
                have : (0 : Int32).toInt = 0 := (by decide)
                refine ok_grd _ ?_ ?_
                · skip
                  exact gr (by omega) (by omega)
                refine ok_let (fun v878 ev878 => ?_)
                have hI_v878 : IM v878 := by
                  rw [ev878]
                  first | exact hI_v872.um7 (by omega) (by omega) | exact hI_v872.u07
                have := i_eq (show v878 30 0 8 = v872 30 0 8 by rw [ev878]; exact up3_t (by decide))
                have := i_eq (show v878 30 0 11 = v872 30 0 11 by rw [ev878]; exact up3_t (by decide))
                have := i_eq (show v878 30 0 12 = v872 30 0 12 by rw [ev878]; exact up3_t (by decide))
                (try have := i_eq (show v878 37 0 3 = v872 37 0 3 by rw [ev878]; exact up3_j (tcne (by omega) (by omega))))
                (try have := i_eq (show v878 37 0 4 = v872 37 0 4 by rw [ev878]; exact up3_j (tcne (by omega) (by omega))))
                have : ((v878 36 0 3).toInt = 0 ∧ (v878 36 0 4).toInt = 0) ∨ (0 < (v878 36 0 3).toInt ∧ 0 < (v878 36 0 4).toInt) := hI_v878.2.1
                refine ok_grd _ ?_ ?_
                · skip
                  have : (1 : Int32).toInt = 1 := (by decide)
                  have := i_bd x665
                  (first | have := sp_addx x665 (1 : Int32) (by omega) | obtain ⟨k622, hk622⟩ := sp_add x665 (1 : Int32))
                  exact gr (by omega) (by omega)
                refine ok_let (fun v880 ev880 => ?_)
                have : (1 : Int32).toInt = 1 := (by decide)
                have := i_bd x665
                (first | have := sp_addx x665 (1 : Int32) (by omega) | obtain ⟨k623, hk623⟩ := sp_add x665 (1 : Int32))
                have hI_v880 : IM v880 := by
                  rw [ev880]
                  first | exact hI_v878.um7 (by omega) (by omega) | exact hI_v878.u07
                have := i_eq (show v880 30 0 8 = v878 30 0 8 by rw [ev880]; exact up3_t (by decide))
                have := i_eq (show v880 30 0 11 = v878 30 0 11 by rw [ev880]; exact up3_t (by decide))
                have := i_eq (show v880 30 0 12 = v878 30 0 12 by rw [ev880]; exact up3_t (by decide))
                (try have := i_eq (show v880 37 0 3 = v878 37 0 3 by rw [ev880]; exact up3_j (tcne (by omega) (by omega))))
                (try have := i_eq (show v880 37 0 4 = v878 37 0 4 by rw [ev880]; exact up3_j (tcne (by omega) (by omega))))
                have : ((v880 36 0 3).toInt = 0 ∧ (v880 36 0 4).toInt = 0) ∨ (0 < (v880 36 0 3).toInt ∧ 0 < (v880 36 0 4).toInt) := hI_v880.2.1
                refine ok_grd _ ?_ ?_
                · skip
                  have : (2 : Int32).toInt = 2 := (by decide)
                  have := i_bd x665
                  (first | have := sp_addx x665 (2 : Int32) (by omega) | obtain ⟨k624, hk624⟩ := sp_add x665 (2 : Int32))
                  exact gr (by omega) (by omega)
                refine ok_let (fun v882 ev882 => ?_)
                have : (2 : Int32).toInt = 2 := (by decide)
                have := i_bd x665
                (first | have := sp_addx x665 (2 : Int32) (by omega) | obtain ⟨k625, hk625⟩ := sp_add x665 (2 : Int32))
                have : (97 : Int32).toInt = 97 := (by decide)
                have := i_bd r853
                (first | have := sp_subx r853 (97 : Int32) (by omega) | obtain ⟨k626, hk626⟩ := sp_sub r853 (97 : Int32))
                have hI_v882 : IM v882 := by
                  rw [ev882]
                  first | exact hI_v880.um7 (by omega) (by omega) | exact hI_v880.u07
                have := i_eq (show v882 30 0 8 = v880 30 0 8 by rw [ev882]; exact up3_t (by decide))
                have := i_eq (show v882 30 0 11 = v880 30 0 11 by rw [ev882]; exact up3_t (by decide))
                have := i_eq (show v882 30 0 12 = v880 30 0 12 by rw [ev882]; exact up3_t (by decide))
                (try have := i_eq (show v882 37 0 3 = v880 37 0 3 by rw [ev882]; exact up3_j (tcne (by omega) (by omega))))
                (try have := i_eq (show v882 37 0 4 = v880 37 0 4 by rw [ev882]; exact up3_j (tcne (by omega) (by omega))))
                have : ((v882 36 0 3).toInt = 0 ∧ (v882 36 0 4).toInt = 0) ∨ (0 < (v882 36 0 3).toInt ∧ 0 < (v882 36 0 4).toInt) := hI_v882.2.1
                refine ok_let (fun v883 ev883 => ?_)
                have hI_v883 : IM v883 := by
                  rw [ev883]
                  refine hI_v882.upo (by decide) ?_
                  show (0 : Int) ≤ Int32.toInt ((v882 37 0 3) + 1) ∧ Int32.toInt ((v882 37 0 3) + 1) ≤ (6 : Int)
                  have : (0 : Int) ≤ (v882 37 0 3).toInt ∧ (v882 37 0 3).toInt ≤ (6 : Int) := hI_v882.1 37 0 3
                  have : (1 : Int32).toInt = 1 := (by decide)
                  have := i_bd (v882 37 0 3)
                  (first | have := sp_addx (v882 37 0 3) (1 : Int32) (by omega) | obtain ⟨k627, hk627⟩ := sp_add (v882 37 0 3) (1 : Int32))
                  omega
                have := i_eq (show v883 30 0 8 = v882 30 0 8 by rw [ev883]; exact up3_t (by decide))
                have := i_eq (show v883 30 0 11 = v882 30 0 11 by rw [ev883]; exact up3_t (by decide))
                have := i_eq (show v883 30 0 12 = v882 30 0 12 by rw [ev883]; exact up3_t (by decide))
                have := i_eq (show v883 37 0 3 = ((v882 37 0 3) + 1) by rw [ev883]; exact up3_s)
                have : (0 : Int) ≤ (v882 37 0 3).toInt ∧ (v882 37 0 3).toInt ≤ (6 : Int) := hI_v882.1 37 0 3
                have : (1 : Int32).toInt = 1 := (by decide)
                have := i_bd (v882 37 0 3)
                (first | have := sp_addx (v882 37 0 3) (1 : Int32) (by omega) | obtain ⟨k628, hk628⟩ := sp_add (v882 37 0 3) (1 : Int32))
                have := i_eq (show v883 37 0 4 = v882 37 0 4 by rw [ev883]; exact up3_j (by decide))
                have : ((v883 36 0 3).toInt = 0 ∧ (v883 36 0 4).toInt = 0) ∨ (0 < (v883 36 0 3).toInt ∧ 0 < (v883 36 0 4).toInt) := hI_v883.2.1
                refine ok_some ?_
                show IM v883 ∧ (Int32.toInt (v883 37 0 4) = Int32.toInt (v 37 0 4)) ∧ ((Int32.toInt (v 30 0 8) < 0 ∧ Int32.toInt (v883 37 0 3) = Int32.toInt (v 37 0 3) + 1) ∨ 0 ≤ Int32.toInt (v883 30 0 8))
                refine ⟨hI_v883, ?_⟩
                omega
set_option maxHeartbeats 4000000 in
theorem k_X8_readsGuard (v : Mm) (hI_v : IM v)  : ok (g_X8_readsGuard v ) (fun z => IM z ∧ (Int32.toInt (z 37 0 3) = Int32.toInt (v 37 0 3)) ∧ ((Int32.toInt (v 30 0 8) < 0 ∧ Int32.toInt (z 37 0 4) = Int32.toInt (v 37 0 4) + 1) ∨ 0 ≤ Int32.toInt (z 30 0 8))) := by
  have : ((v 36 0 3).toInt = 0 ∧ (v 36 0 4).toInt = 0) ∨ (0 < (v 36 0 3).toInt ∧ 0 < (v 36 0 4).toInt) := hI_v.2.1
  unfold g_X8_readsGuard
  try rw [tc_4]
  try rw [tc_6]
  refine ok_bind (k_X8_kindOf v hI_v (v 30 0 12) ) (fun r2 hr2 => ?_)
  have hr2 : ((Int32.toInt r2 = 0 ∧ ¬ (Int32.toInt (v 30 0 12) = 107 ∨ Int32.toInt (v 30 0 12) = 115 ∨ Int32.toInt (v 30 0 12) = 101 ∨ Int32.toInt (v 30 0 12) = 100 ∨ Int32.toInt (v 30 0 12) = 103)) ∨ (1 ≤ Int32.toInt r2 ∧ (Int32.toInt (v 30 0 12) = 107 ∨ Int32.toInt (v 30 0 12) = 115 ∨ Int32.toInt (v 30 0 12) = 101 ∨ Int32.toInt (v 30 0 12) = 100 ∨ Int32.toInt (v 30 0 12) = 103))) := hr2
  refine ok_ite _ (fun c4 => ?_) (fun c4 => ?_)
  · skip
    have ic4 := i_le c4
    have : (0 : Int) ≤ (v 37 0 4).toInt ∧ (v 37 0 4).toInt ≤ (4 : Int) := hI_v.1 37 0 4
    have : (4 : Int32).toInt = 4 := (by decide)
    refine ok_kb2 (k_X8_takes v hI_v 0 3 ) (fun r6 v7 hr6 => ?_)
    have hr6 : IM v7 ∧ (Int32.toInt (v7 37 0 3) = Int32.toInt (v 37 0 3)) ∧ (Int32.toInt (v7 37 0 4) = Int32.toInt (v 37 0 4)) ∧ (Int32.toInt (v 30 0 8) < 0 ∨ 0 ≤ Int32.toInt (v7 30 0 8)) ∧ (¬ Int32.toInt 0 = 0 ∨ 0 ≤ Int32.toInt (v7 30 0 8)) ∧ (Int32.toInt r6 = 0 ∨ (Int32.toInt r6 = Int32.toInt (v 30 0 12) ∧ ¬ Int32.toInt 0 = 0)) := hr6
    obtain ⟨hI_v7, hr6⟩ := hr6
    have : ((v7 36 0 3).toInt = 0 ∧ (v7 36 0 4).toInt = 0) ∨ (0 < (v7 36 0 3).toInt ∧ 0 < (v7 36 0 4).toInt) := hI_v7.2.1
    have : (0 : Int) ≤ (v 37 0 3).toInt ∧ (v 37 0 3).toInt ≤ (6 : Int) := hI_v.1 37 0 3
    have : (0 : Int) ≤ (v 37 0 4).toInt ∧ (v 37 0 4).toInt ≤ (4 : Int) := hI_v.1 37 0 4
    have : (-1 : Int) ≤ (v 30 0 8).toInt ∧ (v 30 0 8).toInt ≤ (100 : Int) := hI_v.1 30 0 8
    have : (0 : Int32).toInt = 0 := (by decide)
    have : (3 : Int32).toInt = 3 := (by decide)
    refine ok_ite _ (fun c8 => ?_) (fun c8 => ?_)
    · skip
      have ic8 := i_le c8
      have : (0 : Int) ≤ (v7 37 0 4).toInt ∧ (v7 37 0 4).toInt ≤ (4 : Int) := hI_v7.1 37 0 4
      have : (4 : Int32).toInt = 4 := (by decide)
      refine ok_kb2 (k_X8_figure v7 hI_v7 0 9 (by have : (0 : Int32).toInt = 0 := (by decide); omega) (by have : (9 : Int32).toInt = 9 := (by decide); omega)) (fun r10 v11 hr10 => ?_)
      have hr10 : IM v11 ∧ (0 : Int) ≤ Int32.toInt r10 ∧ Int32.toInt r10 ≤ (9 : Int) ∧ (Int32.toInt (v11 37 0 3) = Int32.toInt (v7 37 0 3)) ∧ (Int32.toInt (v11 37 0 4) = Int32.toInt (v7 37 0 4)) ∧ (Int32.toInt (v7 30 0 8) < 0 ∨ 0 ≤ Int32.toInt (v11 30 0 8)) ∧ (Int32.toInt r10 ≤ Int32.toInt 9) := hr10
      obtain ⟨hI_v11, hr10⟩ := hr10
      have : ((v11 36 0 3).toInt = 0 ∧ (v11 36 0 4).toInt = 0) ∨ (0 < (v11 36 0 3).toInt ∧ 0 < (v11 36 0 4).toInt) := hI_v11.2.1
      have : (0 : Int) ≤ (v7 37 0 3).toInt ∧ (v7 37 0 3).toInt ≤ (6 : Int) := hI_v7.1 37 0 3
      have : (0 : Int) ≤ (v7 37 0 4).toInt ∧ (v7 37 0 4).toInt ≤ (4 : Int) := hI_v7.1 37 0 4
      have : (-1 : Int) ≤ (v7 30 0 8).toInt ∧ (v7 30 0 8).toInt ≤ (100 : Int) := hI_v7.1 30 0 8
      have : (0 : Int32).toInt = 0 := (by decide)
      have : (9 : Int32).toInt = 9 := (by decide)
      refine ok_ite _ (fun c12 => ?_) (fun c12 => ?_)
      · skip
        have ic12 := i_eq c12
        have : (0 : Int) ≤ (v11 30 0 11).toInt ∧ (v11 30 0 11).toInt ≤ (5 : Int) := hI_v11.1 30 0 11
        have : (4 : Int32).toInt = 4 := (by decide)
        refine ok_kb2 (k_X8_takes v11 hI_v11 1 1 ) (fun r14 v15 hr14 => ?_)
        have hr14 : IM v15 ∧ (Int32.toInt (v15 37 0 3) = Int32.toInt (v11 37 0 3)) ∧ (Int32.toInt (v15 37 0 4) = Int32.toInt (v11 37 0 4)) ∧ (Int32.toInt (v11 30 0 8) < 0 ∨ 0 ≤ Int32.toInt (v15 30 0 8)) ∧ (¬ Int32.toInt 1 = 0 ∨ 0 ≤ Int32.toInt (v15 30 0 8)) ∧ (Int32.toInt r14 = 0 ∨ (Int32.toInt r14 = Int32.toInt (v11 30 0 12) ∧ ¬ Int32.toInt 1 = 0)) := hr14
        obtain ⟨hI_v15, hr14⟩ := hr14
        have : ((v15 36 0 3).toInt = 0 ∧ (v15 36 0 4).toInt = 0) ∨ (0 < (v15 36 0 3).toInt ∧ 0 < (v15 36 0 4).toInt) := hI_v15.2.1
        have : (0 : Int) ≤ (v11 37 0 3).toInt ∧ (v11 37 0 3).toInt ≤ (6 : Int) := hI_v11.1 37 0 3
        have : (0 : Int) ≤ (v11 37 0 4).toInt ∧ (v11 37 0 4).toInt ≤ (4 : Int) := hI_v11.1 37 0 4
        have : (-1 : Int) ≤ (v11 30 0 8).toInt ∧ (v11 30 0 8).toInt ≤ (100 : Int) := hI_v11.1 30 0 8
        have : (1 : Int32).toInt = 1 := (by decide)
        refine ok_bind (k_X8_isWell v15 hI_v15  ) (fun r17 hr17 => ?_)
        have hr17 : (0 : Int) ≤ Int32.toInt r17 ∧ Int32.toInt r17 ≤ (1 : Int) ∧ ((Int32.toInt r17 = 0 ∧ 0 ≤ Int32.toInt (v15 30 0 8)) ∨ (Int32.toInt r17 = 1 ∧ Int32.toInt (v15 30 0 8) < 0)) := hr17
        have : (-1 : Int) ≤ (v15 30 0 8).toInt ∧ (v15 30 0 8).toInt ≤ (100 : Int) := hI_v15.1 30 0 8
        refine ok_ite _ (fun c19 => ?_) (fun c19 => ?_)
        · skip
          have ic19 := i_eq c19
          have : (0 : Int32).toInt = 0 := (by decide)
          refine ok_some ?_
          show IM v15 ∧ (Int32.toInt (v15 37 0 3) = Int32.toInt (v 37 0 3)) ∧ ((Int32.toInt (v 30 0 8) < 0 ∧ Int32.toInt (v15 37 0 4) = Int32.toInt (v 37 0 4) + 1) ∨ 0 ≤ Int32.toInt (v15 30 0 8))
          refine ⟨hI_v15, ?_⟩
          omega
        · skip
          have ic19 := i_ne c19
          have : (0 : Int32).toInt = 0 := (by decide)
          refine ok_grd _ ?_ ?_
          · skip
            have : (26 : Int32).toInt = 26 := (by decide)
            have : (3 : Int32).toInt = 3 := (by decide)
            have : (0 : Int32).toInt = 0 := (by decide)
            (first | have := sp_mulcx (3 : Int32) (0 : Int32) 0 (by decide) (by omega) | obtain ⟨k1, hk1⟩ := sp_mulc (3 : Int32) (0 : Int32) 0 (by decide))
            (first | have := sp_addx (26 : Int32) ((3 : Int32) * 0) (by omega) | obtain ⟨k2, hk2⟩ := sp_add (26 : Int32) ((3 : Int32) * 0))
            exact gr (by omega) (by omega)
          refine ok_let (fun v21 ev21 => ?_)
          have : (26 : Int32).toInt = 26 := (by decide)
          have : (3 : Int32).toInt = 3 := (by decide)
          have : (0 : Int32).toInt = 0 := (by decide)
          (first | have := sp_mulcx (3 : Int32) (0 : Int32) 0 (by decide) (by omega) | obtain ⟨k3, hk3⟩ := sp_mulc (3 : Int32) (0 : Int32) 0 (by decide))
          (first | have := sp_addx (26 : Int32) ((3 : Int32) * 0) (by omega) | obtain ⟨k4, hk4⟩ := sp_add (26 : Int32) ((3 : Int32) * 0))
          have hI_v21 : IM v21 := by
            rw [ev21]
            first | exact hI_v15.um7 (by omega) (by omega) | exact hI_v15.u07
          have := i_eq (show v21 30 0 8 = v15 30 0 8 by rw [ev21]; exact up3_t (by decide))
          have := i_eq (show v21 30 0 11 = v15 30 0 11 by rw [ev21]; exact up3_t (by decide))
          have := i_eq (show v21 30 0 12 = v15 30 0 12 by rw [ev21]; exact up3_t (by decide))
          (try have := i_eq (show v21 37 0 3 = v15 37 0 3 by rw [ev21]; exact up3_j (tcne (by omega) (by omega))))
          (try have := i_eq (show v21 37 0 4 = v15 37 0 4 by rw [ev21]; exact up3_j (tcne (by omega) (by omega))))
          (try have := i_eq (show v21 37 0 6 = v15 37 0 6 by rw [ev21]; exact up3_j (tcne (by omega) (by omega))))
          have : ((v21 36 0 3).toInt = 0 ∧ (v21 36 0 4).toInt = 0) ∨ (0 < (v21 36 0 3).toInt ∧ 0 < (v21 36 0 4).toInt) := hI_v21.2.1
          refine ok_grd _ ?_ ?_
          · skip
            have : (26 : Int32).toInt = 26 := (by decide)
            have : (3 : Int32).toInt = 3 := (by decide)
            have : (0 : Int32).toInt = 0 := (by decide)
            (first | have := sp_mulcx (3 : Int32) (0 : Int32) 0 (by decide) (by omega) | obtain ⟨k5, hk5⟩ := sp_mulc (3 : Int32) (0 : Int32) 0 (by decide))
            (first | have := sp_addx (26 : Int32) ((3 : Int32) * 0) (by omega) | obtain ⟨k6, hk6⟩ := sp_add (26 : Int32) ((3 : Int32) * 0))
            have : (1 : Int32).toInt = 1 := (by decide)
            (first | have := sp_addx ((26 : Int32) + ((3 : Int32) * 0)) (1 : Int32) (by omega) | obtain ⟨k7, hk7⟩ := sp_add ((26 : Int32) + ((3 : Int32) * 0)) (1 : Int32))
            exact gr (by omega) (by omega)
          refine ok_let (fun v23 ev23 => ?_)
          have : (26 : Int32).toInt = 26 := (by decide)
          have : (3 : Int32).toInt = 3 := (by decide)
          have : (0 : Int32).toInt = 0 := (by decide)
          (first | have := sp_mulcx (3 : Int32) (0 : Int32) 0 (by decide) (by omega) | obtain ⟨k8, hk8⟩ := sp_mulc (3 : Int32) (0 : Int32) 0 (by decide))
          (first | have := sp_addx (26 : Int32) ((3 : Int32) * 0) (by omega) | obtain ⟨k9, hk9⟩ := sp_add (26 : Int32) ((3 : Int32) * 0))
          have : (1 : Int32).toInt = 1 := (by decide)
          (first | have := sp_addx ((26 : Int32) + ((3 : Int32) * 0)) (1 : Int32) (by omega) | obtain ⟨k10, hk10⟩ := sp_add ((26 : Int32) + ((3 : Int32) * 0)) (1 : Int32))
          have hI_v23 : IM v23 := by
            rw [ev23]
            first | exact hI_v21.um7 (by omega) (by omega) | exact hI_v21.u07
          have := i_eq (show v23 30 0 8 = v21 30 0 8 by rw [ev23]; exact up3_t (by decide))
          have := i_eq (show v23 30 0 11 = v21 30 0 11 by rw [ev23]; exact up3_t (by decide))
          have := i_eq (show v23 30 0 12 = v21 30 0 12 by rw [ev23]; exact up3_t (by decide))
          (try have := i_eq (show v23 37 0 3 = v21 37 0 3 by rw [ev23]; exact up3_j (tcne (by omega) (by omega))))
          (try have := i_eq (show v23 37 0 4 = v21 37 0 4 by rw [ev23]; exact up3_j (tcne (by omega) (by omega))))
          (try have := i_eq (show v23 37 0 6 = v21 37 0 6 by rw [ev23]; exact up3_j (tcne (by omega) (by omega))))
          have : ((v23 36 0 3).toInt = 0 ∧ (v23 36 0 4).toInt = 0) ∨ (0 < (v23 36 0 3).toInt ∧ 0 < (v23 36 0 4).toInt) := hI_v23.2.1
          refine ok_let (fun v24 ev24 => ?_)
          have hI_v24 : IM v24 := by
            rw [ev24]
            refine hI_v23.upo (by decide) ?_
            show (0 : Int) ≤ Int32.toInt ((v23 37 0 6) ||| ((1 : Int32) <<< ((v23 37 0 4) &&& 31))) ∧ Int32.toInt ((v23 37 0 6) ||| ((1 : Int32) <<< ((v23 37 0 4) &&& 31))) ≤ (15 : Int)
            have : (0 : Int) ≤ (v23 37 0 6).toInt ∧ (v23 37 0 6).toInt ≤ (15 : Int) := hI_v23.1 37 0 6
            have : (1 : Int32).toInt = 1 := (by decide)
            have : (0 : Int) ≤ (v23 37 0 4).toInt ∧ (v23 37 0 4).toInt ≤ (4 : Int) := hI_v23.1 37 0 4
            (try have := sp_shl4 (b := (v23 37 0 4)) (by omega) (by omega))
            (try have := sp_shl5 (b := (v23 37 0 4)) (by omega) (by omega))
            (try have := sp_shl7 (b := (v23 37 0 4)) (by omega) (by omega))
            (try have := sp_shl (a := (1 : Int32)) (b := (v23 37 0 4)) (by omega) (by omega) (by omega) (by omega))
            (try have := sp_or64 (a := (v23 37 0 6)) (b := ((1 : Int32) <<< ((v23 37 0 4) &&& 31))) (by omega) (by omega) (by omega) (by omega))
            (try have := sp_or16 (a := (v23 37 0 6)) (b := ((1 : Int32) <<< ((v23 37 0 4) &&& 31))) (by omega) (by omega) (by omega) (by omega))
            omega
          have := i_eq (show v24 30 0 8 = v23 30 0 8 by rw [ev24]; exact up3_t (by decide))
          have := i_eq (show v24 30 0 11 = v23 30 0 11 by rw [ev24]; exact up3_t (by decide))
          have := i_eq (show v24 30 0 12 = v23 30 0 12 by rw [ev24]; exact up3_t (by decide))
          have := i_eq (show v24 37 0 3 = v23 37 0 3 by rw [ev24]; exact up3_j (by decide))
          have := i_eq (show v24 37 0 4 = v23 37 0 4 by rw [ev24]; exact up3_j (by decide))
          have := i_eq (show v24 37 0 6 = ((v23 37 0 6) ||| ((1 : Int32) <<< ((v23 37 0 4) &&& 31))) by rw [ev24]; exact up3_s)
          have : (0 : Int) ≤ (v23 37 0 6).toInt ∧ (v23 37 0 6).toInt ≤ (15 : Int) := hI_v23.1 37 0 6
          have : (1 : Int32).toInt = 1 := (by decide)
          have : (0 : Int) ≤ (v23 37 0 4).toInt ∧ (v23 37 0 4).toInt ≤ (4 : Int) := hI_v23.1 37 0 4
          (try have := sp_shl4 (b := (v23 37 0 4)) (by omega) (by omega))
          (try have := sp_shl5 (b := (v23 37 0 4)) (by omega) (by omega))
          (try have := sp_shl7 (b := (v23 37 0 4)) (by omega) (by omega))
          (try have := sp_shl (a := (1 : Int32)) (b := (v23 37 0 4)) (by omega) (by omega) (by omega) (by omega))
          (try have := sp_or64 (a := (v23 37 0 6)) (b := ((1 : Int32) <<< ((v23 37 0 4) &&& 31))) (by omega) (by omega) (by omega) (by omega))
          (try have := sp_or16 (a := (v23 37 0 6)) (b := ((1 : Int32) <<< ((v23 37 0 4) &&& 31))) (by omega) (by omega) (by omega) (by omega))
          have : ((v24 36 0 3).toInt = 0 ∧ (v24 36 0 4).toInt = 0) ∨ (0 < (v24 36 0 3).toInt ∧ 0 < (v24 36 0 4).toInt) := hI_v24.2.1
          refine ok_let (fun v25 ev25 => ?_)
          have hI_v25 : IM v25 := by
            rw [ev25]
            refine hI_v24.upo (by decide) ?_
            show (0 : Int) ≤ Int32.toInt ((v24 37 0 4) + 1) ∧ Int32.toInt ((v24 37 0 4) + 1) ≤ (4 : Int)
            have : (0 : Int) ≤ (v24 37 0 4).toInt ∧ (v24 37 0 4).toInt ≤ (4 : Int) := hI_v24.1 37 0 4
            have : (1 : Int32).toInt = 1 := (by decide)
            have := i_bd (v24 37 0 4)
            (first | have := sp_addx (v24 37 0 4) (1 : Int32) (by omega) | obtain ⟨k11, hk11⟩ := sp_add (v24 37 0 4) (1 : Int32))
            omega
          have := i_eq (show v25 30 0 8 = v24 30 0 8 by rw [ev25]; exact up3_t (by decide))
          have := i_eq (show v25 30 0 11 = v24 30 0 11 by rw [ev25]; exact up3_t (by decide))
          have := i_eq (show v25 30 0 12 = v24 30 0 12 by rw [ev25]; exact up3_t (by decide))
          have := i_eq (show v25 37 0 3 = v24 37 0 3 by rw [ev25]; exact up3_j (by decide))
          have := i_eq (show v25 37 0 4 = ((v24 37 0 4) + 1) by rw [ev25]; exact up3_s)
          have : (0 : Int) ≤ (v24 37 0 4).toInt ∧ (v24 37 0 4).toInt ≤ (4 : Int) := hI_v24.1 37 0 4
          have : (1 : Int32).toInt = 1 := (by decide)
          have := i_bd (v24 37 0 4)
          (first | have := sp_addx (v24 37 0 4) (1 : Int32) (by omega) | obtain ⟨k12, hk12⟩ := sp_add (v24 37 0 4) (1 : Int32))
          have := i_eq (show v25 37 0 6 = v24 37 0 6 by rw [ev25]; exact up3_j (by decide))
          have : ((v25 36 0 3).toInt = 0 ∧ (v25 36 0 4).toInt = 0) ∨ (0 < (v25 36 0 3).toInt ∧ 0 < (v25 36 0 4).toInt) := hI_v25.2.1
          refine ok_some ?_
          show IM v25 ∧ (Int32.toInt (v25 37 0 3) = Int32.toInt (v 37 0 3)) ∧ ((Int32.toInt (v 30 0 8) < 0 ∧ Int32.toInt (v25 37 0 4) = Int32.toInt (v 37 0 4) + 1) ∨ 0 ≤ Int32.toInt (v25 30 0 8))
          refine ⟨hI_v25, ?_⟩
          omega
      · skip
        have ic12 := i_ne c12
        have : (0 : Int) ≤ (v11 30 0 11).toInt ∧ (v11 30 0 11).toInt ≤ (5 : Int) := hI_v11.1 30 0 11
        have : (4 : Int32).toInt = 4 := (by decide)
        refine ok_kb2 (k_X8_takes v11 hI_v11 0 1 ) (fun r27 v28 hr27 => ?_)
        have hr27 : IM v28 ∧ (Int32.toInt (v28 37 0 3) = Int32.toInt (v11 37 0 3)) ∧ (Int32.toInt (v28 37 0 4) = Int32.toInt (v11 37 0 4)) ∧ (Int32.toInt (v11 30 0 8) < 0 ∨ 0 ≤ Int32.toInt (v28 30 0 8)) ∧ (¬ Int32.toInt 0 = 0 ∨ 0 ≤ Int32.toInt (v28 30 0 8)) ∧ (Int32.toInt r27 = 0 ∨ (Int32.toInt r27 = Int32.toInt (v11 30 0 12) ∧ ¬ Int32.toInt 0 = 0)) := hr27
        obtain ⟨hI_v28, hr27⟩ := hr27
        have : ((v28 36 0 3).toInt = 0 ∧ (v28 36 0 4).toInt = 0) ∨ (0 < (v28 36 0 3).toInt ∧ 0 < (v28 36 0 4).toInt) := hI_v28.2.1
        have : (0 : Int) ≤ (v11 37 0 3).toInt ∧ (v11 37 0 3).toInt ≤ (6 : Int) := hI_v11.1 37 0 3
        have : (0 : Int) ≤ (v11 37 0 4).toInt ∧ (v11 37 0 4).toInt ≤ (4 : Int) := hI_v11.1 37 0 4
        have : (-1 : Int) ≤ (v11 30 0 8).toInt ∧ (v11 30 0 8).toInt ≤ (100 : Int) := hI_v11.1 30 0 8
        have : (0 : Int32).toInt = 0 := (by decide)
        have : (1 : Int32).toInt = 1 := (by decide)
        refine ok_bind (k_X8_isWell v28 hI_v28  ) (fun r30 hr30 => ?_)
        have hr30 : (0 : Int) ≤ Int32.toInt r30 ∧ Int32.toInt r30 ≤ (1 : Int) ∧ ((Int32.toInt r30 = 0 ∧ 0 ≤ Int32.toInt (v28 30 0 8)) ∨ (Int32.toInt r30 = 1 ∧ Int32.toInt (v28 30 0 8) < 0)) := hr30
        have : (-1 : Int) ≤ (v28 30 0 8).toInt ∧ (v28 30 0 8).toInt ≤ (100 : Int) := hI_v28.1 30 0 8
        refine ok_ite _ (fun c32 => ?_) (fun c32 => ?_)
        · skip
          have ic32 := i_eq c32
          have : (0 : Int32).toInt = 0 := (by decide)
          refine ok_some ?_
          show IM v28 ∧ (Int32.toInt (v28 37 0 3) = Int32.toInt (v 37 0 3)) ∧ ((Int32.toInt (v 30 0 8) < 0 ∧ Int32.toInt (v28 37 0 4) = Int32.toInt (v 37 0 4) + 1) ∨ 0 ≤ Int32.toInt (v28 30 0 8))
          refine ⟨hI_v28, ?_⟩
          omega
        · skip
          have ic32 := i_ne c32
          have : (0 : Int32).toInt = 0 := (by decide)
          refine ok_grd _ ?_ ?_
          · skip
            have : (26 : Int32).toInt = 26 := (by decide)
            have : (3 : Int32).toInt = 3 := (by decide)
            have : (0 : Int32).toInt = 0 := (by decide)
            (first | have := sp_mulcx (3 : Int32) (0 : Int32) 0 (by decide) (by omega) | obtain ⟨k13, hk13⟩ := sp_mulc (3 : Int32) (0 : Int32) 0 (by decide))
            (first | have := sp_addx (26 : Int32) ((3 : Int32) * 0) (by omega) | obtain ⟨k14, hk14⟩ := sp_add (26 : Int32) ((3 : Int32) * 0))
            exact gr (by omega) (by omega)
          refine ok_let (fun v34 ev34 => ?_)
          have : (26 : Int32).toInt = 26 := (by decide)
          have : (3 : Int32).toInt = 3 := (by decide)
          have : (0 : Int32).toInt = 0 := (by decide)
          (first | have := sp_mulcx (3 : Int32) (0 : Int32) 0 (by decide) (by omega) | obtain ⟨k15, hk15⟩ := sp_mulc (3 : Int32) (0 : Int32) 0 (by decide))
          (first | have := sp_addx (26 : Int32) ((3 : Int32) * 0) (by omega) | obtain ⟨k16, hk16⟩ := sp_add (26 : Int32) ((3 : Int32) * 0))
          have hI_v34 : IM v34 := by
            rw [ev34]
            first | exact hI_v28.um7 (by omega) (by omega) | exact hI_v28.u07
          have := i_eq (show v34 30 0 8 = v28 30 0 8 by rw [ev34]; exact up3_t (by decide))
          have := i_eq (show v34 30 0 11 = v28 30 0 11 by rw [ev34]; exact up3_t (by decide))
          have := i_eq (show v34 30 0 12 = v28 30 0 12 by rw [ev34]; exact up3_t (by decide))
          (try have := i_eq (show v34 37 0 3 = v28 37 0 3 by rw [ev34]; exact up3_j (tcne (by omega) (by omega))))
          (try have := i_eq (show v34 37 0 4 = v28 37 0 4 by rw [ev34]; exact up3_j (tcne (by omega) (by omega))))
          (try have := i_eq (show v34 37 0 6 = v28 37 0 6 by rw [ev34]; exact up3_j (tcne (by omega) (by omega))))
          have : ((v34 36 0 3).toInt = 0 ∧ (v34 36 0 4).toInt = 0) ∨ (0 < (v34 36 0 3).toInt ∧ 0 < (v34 36 0 4).toInt) := hI_v34.2.1
          refine ok_grd _ ?_ ?_
          · skip
            have : (26 : Int32).toInt = 26 := (by decide)
            have : (3 : Int32).toInt = 3 := (by decide)
            have : (0 : Int32).toInt = 0 := (by decide)
            (first | have := sp_mulcx (3 : Int32) (0 : Int32) 0 (by decide) (by omega) | obtain ⟨k17, hk17⟩ := sp_mulc (3 : Int32) (0 : Int32) 0 (by decide))
            (first | have := sp_addx (26 : Int32) ((3 : Int32) * 0) (by omega) | obtain ⟨k18, hk18⟩ := sp_add (26 : Int32) ((3 : Int32) * 0))
            have : (1 : Int32).toInt = 1 := (by decide)
            (first | have := sp_addx ((26 : Int32) + ((3 : Int32) * 0)) (1 : Int32) (by omega) | obtain ⟨k19, hk19⟩ := sp_add ((26 : Int32) + ((3 : Int32) * 0)) (1 : Int32))
            exact gr (by omega) (by omega)
          refine ok_let (fun v36 ev36 => ?_)
          have : (26 : Int32).toInt = 26 := (by decide)
          have : (3 : Int32).toInt = 3 := (by decide)
          have : (0 : Int32).toInt = 0 := (by decide)
          (first | have := sp_mulcx (3 : Int32) (0 : Int32) 0 (by decide) (by omega) | obtain ⟨k20, hk20⟩ := sp_mulc (3 : Int32) (0 : Int32) 0 (by decide))
          (first | have := sp_addx (26 : Int32) ((3 : Int32) * 0) (by omega) | obtain ⟨k21, hk21⟩ := sp_add (26 : Int32) ((3 : Int32) * 0))
          have : (1 : Int32).toInt = 1 := (by decide)
          (first | have := sp_addx ((26 : Int32) + ((3 : Int32) * 0)) (1 : Int32) (by omega) | obtain ⟨k22, hk22⟩ := sp_add ((26 : Int32) + ((3 : Int32) * 0)) (1 : Int32))
          have hI_v36 : IM v36 := by
            rw [ev36]
            first | exact hI_v34.um7 (by omega) (by omega) | exact hI_v34.u07
          have := i_eq (show v36 30 0 8 = v34 30 0 8 by rw [ev36]; exact up3_t (by decide))
          have := i_eq (show v36 30 0 11 = v34 30 0 11 by rw [ev36]; exact up3_t (by decide))
          have := i_eq (show v36 30 0 12 = v34 30 0 12 by rw [ev36]; exact up3_t (by decide))
          (try have := i_eq (show v36 37 0 3 = v34 37 0 3 by rw [ev36]; exact up3_j (tcne (by omega) (by omega))))
          (try have := i_eq (show v36 37 0 4 = v34 37 0 4 by rw [ev36]; exact up3_j (tcne (by omega) (by omega))))
          (try have := i_eq (show v36 37 0 6 = v34 37 0 6 by rw [ev36]; exact up3_j (tcne (by omega) (by omega))))
          have : ((v36 36 0 3).toInt = 0 ∧ (v36 36 0 4).toInt = 0) ∨ (0 < (v36 36 0 3).toInt ∧ 0 < (v36 36 0 4).toInt) := hI_v36.2.1
          refine ok_let (fun v37 ev37 => ?_)
          have hI_v37 : IM v37 := by
            rw [ev37]
            refine hI_v36.upo (by decide) ?_
            show (0 : Int) ≤ Int32.toInt ((v36 37 0 6) ||| ((1 : Int32) <<< ((v36 37 0 4) &&& 31))) ∧ Int32.toInt ((v36 37 0 6) ||| ((1 : Int32) <<< ((v36 37 0 4) &&& 31))) ≤ (15 : Int)
            have : (0 : Int) ≤ (v36 37 0 6).toInt ∧ (v36 37 0 6).toInt ≤ (15 : Int) := hI_v36.1 37 0 6
            have : (1 : Int32).toInt = 1 := (by decide)
            have : (0 : Int) ≤ (v36 37 0 4).toInt ∧ (v36 37 0 4).toInt ≤ (4 : Int) := hI_v36.1 37 0 4
            (try have := sp_shl4 (b := (v36 37 0 4)) (by omega) (by omega))
            (try have := sp_shl5 (b := (v36 37 0 4)) (by omega) (by omega))
            (try have := sp_shl7 (b := (v36 37 0 4)) (by omega) (by omega))
            (try have := sp_shl (a := (1 : Int32)) (b := (v36 37 0 4)) (by omega) (by omega) (by omega) (by omega))
            (try have := sp_or64 (a := (v36 37 0 6)) (b := ((1 : Int32) <<< ((v36 37 0 4) &&& 31))) (by omega) (by omega) (by omega) (by omega))
            (try have := sp_or16 (a := (v36 37 0 6)) (b := ((1 : Int32) <<< ((v36 37 0 4) &&& 31))) (by omega) (by omega) (by omega) (by omega))
            omega
          have := i_eq (show v37 30 0 8 = v36 30 0 8 by rw [ev37]; exact up3_t (by decide))
          have := i_eq (show v37 30 0 11 = v36 30 0 11 by rw [ev37]; exact up3_t (by decide))
          have := i_eq (show v37 30 0 12 = v36 30 0 12 by rw [ev37]; exact up3_t (by decide))
          have := i_eq (show v37 37 0 3 = v36 37 0 3 by rw [ev37]; exact up3_j (by decide))
          have := i_eq (show v37 37 0 4 = v36 37 0 4 by rw [ev37]; exact up3_j (by decide))
          have := i_eq (show v37 37 0 6 = ((v36 37 0 6) ||| ((1 : Int32) <<< ((v36 37 0 4) &&& 31))) by rw [ev37]; exact up3_s)
          have : (0 : Int) ≤ (v36 37 0 6).toInt ∧ (v36 37 0 6).toInt ≤ (15 : Int) := hI_v36.1 37 0 6
          have : (1 : Int32).toInt = 1 := (by decide)
          have : (0 : Int) ≤ (v36 37 0 4).toInt ∧ (v36 37 0 4).toInt ≤ (4 : Int) := hI_v36.1 37 0 4
          (try have := sp_shl4 (b := (v36 37 0 4)) (by omega) (by omega))
          (try have := sp_shl5 (b := (v36 37 0 4)) (by omega) (by omega))
          (try have := sp_shl7 (b := (v36 37 0 4)) (by omega) (by omega))
          (try have := sp_shl (a := (1 : Int32)) (b := (v36 37 0 4)) (by omega) (by omega) (by omega) (by omega))
          (try have := sp_or64 (a := (v36 37 0 6)) (b := ((1 : Int32) <<< ((v36 37 0 4) &&& 31))) (by omega) (by omega) (by omega) (by omega))
          (try have := sp_or16 (a := (v36 37 0 6)) (b := ((1 : Int32) <<< ((v36 37 0 4) &&& 31))) (by omega) (by omega) (by omega) (by omega))
          have : ((v37 36 0 3).toInt = 0 ∧ (v37 36 0 4).toInt = 0) ∨ (0 < (v37 36 0 3).toInt ∧ 0 < (v37 36 0 4).toInt) := hI_v37.2.1
          refine ok_let (fun v38 ev38 => ?_)
          have hI_v38 : IM v38 := by
            rw [ev38]
            refine hI_v37.upo (by decide) ?_
            show (0 : Int) ≤ Int32.toInt ((v37 37 0 4) + 1) ∧ Int32.toInt ((v37 37 0 4) + 1) ≤ (4 : Int)
            have : (0 : Int) ≤ (v37 37 0 4).toInt ∧ (v37 37 0 4).toInt ≤ (4 : Int) := hI_v37.1 37 0 4
            have : (1 : Int32).toInt = 1 := (by decide)
            have := i_bd (v37 37 0 4)
            (first | have := sp_addx (v37 37 0 4) (1 : Int32) (by omega) | obtain ⟨k23, hk23⟩ := sp_add (v37 37 0 4) (1 : Int32))
            omega
          have := i_eq (show v38 30 0 8 = v37 30 0 8 by rw [ev38]; exact up3_t (by decide))
          have := i_eq (show v38 30 0 11 = v37 30 0 11 by rw [ev38]; exact up3_t (by decide))
          have := i_eq (show v38 30 0 12 = v37 30 0 12 by rw [ev38]; exact up3_t (by decide))
          have := i_eq (show v38 37 0 3 = v37 37 0 3 by rw [ev38]; exact up3_j (by decide))
          have := i_eq (show v38 37 0 4 = ((v37 37 0 4) + 1) by rw [ev38]; exact up3_s)
          have : (0 : Int) ≤ (v37 37 0 4).toInt ∧ (v37 37 0 4).toInt ≤ (4 : Int) := hI_v37.1 37 0 4
          have : (1 : Int32).toInt = 1 := (by decide)
          have := i_bd (v37 37 0 4)
          (first | have := sp_addx (v37 37 0 4) (1 : Int32) (by omega) | obtain ⟨k24, hk24⟩ := sp_add (v37 37 0 4) (1 : Int32))
          have := i_eq (show v38 37 0 6 = v37 37 0 6 by rw [ev38]; exact up3_j (by decide))
          have : ((v38 36 0 3).toInt = 0 ∧ (v38 36 0 4).toInt = 0) ∨ (0 < (v38 36 0 3).toInt ∧ 0 < (v38 36 0 4).toInt) := hI_v38.2.1
          refine ok_some ?_
          show IM v38 ∧ (Int32.toInt (v38 37 0 3) = Int32.toInt (v 37 0 3)) ∧ ((Int32.toInt (v 30 0 8) < 0 ∧ Int32.toInt (v38 37 0 4) = Int32.toInt (v 37 0 4) + 1) ∨ 0 ≤ Int32.toInt (v38 30 0 8))
          refine ⟨hI_v38, ?_⟩
          omega
    · skip
      have ic8 := i_nle c8
      have : (0 : Int) ≤ (v7 37 0 4).toInt ∧ (v7 37 0 4).toInt ≤ (4 : Int) := hI_v7.1 37 0 4
      have : (4 : Int32).toInt = 4 := (by decide)
      refine ok_let (fun x39 ex39 => ?_)
      have : (26 : Int32).toInt = 26 := (by decide)
      have : (3 : Int32).toInt = 3 := (by decide)
      have : (0 : Int) ≤ (v7 37 0 4).toInt ∧ (v7 37 0 4).toInt ≤ (4 : Int) := hI_v7.1 37 0 4
      (first | have := sp_cmulx (3 : Int32) (v7 37 0 4) 3 (by decide) (by omega) | obtain ⟨k25, hk25⟩ := sp_cmul (3 : Int32) (v7 37 0 4) 3 (by decide))
      (first | have := sp_addx (26 : Int32) ((3 : Int32) * (v7 37 0 4)) (by omega) | obtain ⟨k26, hk26⟩ := sp_add (26 : Int32) ((3 : Int32) * (v7 37 0 4)))
      have := i_eq ex39
      refine ok_kb2 (k_X8_figure v7 hI_v7 0 9 (by have : (0 : Int32).toInt = 0 := (by decide); omega) (by have : (9 : Int32).toInt = 9 := (by decide); omega)) (fun r41 v42 hr41 => ?_)
      have hr41 : IM v42 ∧ (0 : Int) ≤ Int32.toInt r41 ∧ Int32.toInt r41 ≤ (9 : Int) ∧ (Int32.toInt (v42 37 0 3) = Int32.toInt (v7 37 0 3)) ∧ (Int32.toInt (v42 37 0 4) = Int32.toInt (v7 37 0 4)) ∧ (Int32.toInt (v7 30 0 8) < 0 ∨ 0 ≤ Int32.toInt (v42 30 0 8)) ∧ (Int32.toInt r41 ≤ Int32.toInt 9) := hr41
      obtain ⟨hI_v42, hr41⟩ := hr41
      have : ((v42 36 0 3).toInt = 0 ∧ (v42 36 0 4).toInt = 0) ∨ (0 < (v42 36 0 3).toInt ∧ 0 < (v42 36 0 4).toInt) := hI_v42.2.1
      have : (0 : Int) ≤ (v7 37 0 3).toInt ∧ (v7 37 0 3).toInt ≤ (6 : Int) := hI_v7.1 37 0 3
      have : (0 : Int) ≤ (v7 37 0 4).toInt ∧ (v7 37 0 4).toInt ≤ (4 : Int) := hI_v7.1 37 0 4
      have : (-1 : Int) ≤ (v7 30 0 8).toInt ∧ (v7 30 0 8).toInt ≤ (100 : Int) := hI_v7.1 30 0 8
      have : (0 : Int32).toInt = 0 := (by decide)
      have : (9 : Int32).toInt = 9 := (by decide)
      refine ok_ite _ (fun c43 => ?_) (fun c43 => ?_)
      · skip
        have ic43 := i_eq c43
        have : (0 : Int) ≤ (v42 30 0 11).toInt ∧ (v42 30 0 11).toInt ≤ (5 : Int) := hI_v42.1 30 0 11
        have : (4 : Int32).toInt = 4 := (by decide)
        refine ok_kb2 (k_X8_takes v42 hI_v42 1 1 ) (fun r45 v46 hr45 => ?_)
        have hr45 : IM v46 ∧ (Int32.toInt (v46 37 0 3) = Int32.toInt (v42 37 0 3)) ∧ (Int32.toInt (v46 37 0 4) = Int32.toInt (v42 37 0 4)) ∧ (Int32.toInt (v42 30 0 8) < 0 ∨ 0 ≤ Int32.toInt (v46 30 0 8)) ∧ (¬ Int32.toInt 1 = 0 ∨ 0 ≤ Int32.toInt (v46 30 0 8)) ∧ (Int32.toInt r45 = 0 ∨ (Int32.toInt r45 = Int32.toInt (v42 30 0 12) ∧ ¬ Int32.toInt 1 = 0)) := hr45
        obtain ⟨hI_v46, hr45⟩ := hr45
        have : ((v46 36 0 3).toInt = 0 ∧ (v46 36 0 4).toInt = 0) ∨ (0 < (v46 36 0 3).toInt ∧ 0 < (v46 36 0 4).toInt) := hI_v46.2.1
        have : (0 : Int) ≤ (v42 37 0 3).toInt ∧ (v42 37 0 3).toInt ≤ (6 : Int) := hI_v42.1 37 0 3
        have : (0 : Int) ≤ (v42 37 0 4).toInt ∧ (v42 37 0 4).toInt ≤ (4 : Int) := hI_v42.1 37 0 4
        have : (-1 : Int) ≤ (v42 30 0 8).toInt ∧ (v42 30 0 8).toInt ≤ (100 : Int) := hI_v42.1 30 0 8
        have : (1 : Int32).toInt = 1 := (by decide)
        refine ok_bind (k_X8_isWell v46 hI_v46  ) (fun r48 hr48 => ?_)
        have hr48 : (0 : Int) ≤ Int32.toInt r48 ∧ Int32.toInt r48 ≤ (1 : Int) ∧ ((Int32.toInt r48 = 0 ∧ 0 ≤ Int32.toInt (v46 30 0 8)) ∨ (Int32.toInt r48 = 1 ∧ Int32.toInt (v46 30 0 8) < 0)) := hr48
        have : (-1 : Int) ≤ (v46 30 0 8).toInt ∧ (v46 30 0 8).toInt ≤ (100 : Int) := hI_v46.1 30 0 8
        refine ok_ite _ (fun c50 => ?_) (fun c50 => ?_)
        · skip
          have ic50 := i_eq c50
          have : (0 : Int32).toInt = 0 := (by decide)
          refine ok_some ?_
          show IM v46 ∧ (Int32.toInt (v46 37 0 3) = Int32.toInt (v 37 0 3)) ∧ ((Int32.toInt (v 30 0 8) < 0 ∧ Int32.toInt (v46 37 0 4) = Int32.toInt (v 37 0 4) + 1) ∨ 0 ≤ Int32.toInt (v46 30 0 8))
          refine ⟨hI_v46, ?_⟩
          omega
        · skip
          have ic50 := i_ne c50
          have : (0 : Int32).toInt = 0 := (by decide)
          refine ok_grd _ ?_ ?_
          · skip
            exact gr (by omega) (by omega)
          refine ok_let (fun v52 ev52 => ?_)
          have hI_v52 : IM v52 := by
            rw [ev52]
            first | exact hI_v46.um7 (by omega) (by omega) | exact hI_v46.u07
          have := i_eq (show v52 30 0 8 = v46 30 0 8 by rw [ev52]; exact up3_t (by decide))
          have := i_eq (show v52 30 0 11 = v46 30 0 11 by rw [ev52]; exact up3_t (by decide))
          have := i_eq (show v52 30 0 12 = v46 30 0 12 by rw [ev52]; exact up3_t (by decide))
          (try have := i_eq (show v52 37 0 3 = v46 37 0 3 by rw [ev52]; exact up3_j (tcne (by omega) (by omega))))
          (try have := i_eq (show v52 37 0 4 = v46 37 0 4 by rw [ev52]; exact up3_j (tcne (by omega) (by omega))))
          (try have := i_eq (show v52 37 0 6 = v46 37 0 6 by rw [ev52]; exact up3_j (tcne (by omega) (by omega))))
          have : ((v52 36 0 3).toInt = 0 ∧ (v52 36 0 4).toInt = 0) ∨ (0 < (v52 36 0 3).toInt ∧ 0 < (v52 36 0 4).toInt) := hI_v52.2.1
          refine ok_grd _ ?_ ?_
          · skip
            have : (1 : Int32).toInt = 1 := (by decide)
            have := i_bd x39
            (first | have := sp_addx x39 (1 : Int32) (by omega) | obtain ⟨k27, hk27⟩ := sp_add x39 (1 : Int32))
            exact gr (by omega) (by omega)
          refine ok_let (fun v54 ev54 => ?_)
          have : (1 : Int32).toInt = 1 := (by decide)
          have := i_bd x39
          (first | have := sp_addx x39 (1 : Int32) (by omega) | obtain ⟨k28, hk28⟩ := sp_add x39 (1 : Int32))
          have hI_v54 : IM v54 := by
            rw [ev54]
            first | exact hI_v52.um7 (by omega) (by omega) | exact hI_v52.u07
          have := i_eq (show v54 30 0 8 = v52 30 0 8 by rw [ev54]; exact up3_t (by decide))
          have := i_eq (show v54 30 0 11 = v52 30 0 11 by rw [ev54]; exact up3_t (by decide))
          have := i_eq (show v54 30 0 12 = v52 30 0 12 by rw [ev54]; exact up3_t (by decide))
          (try have := i_eq (show v54 37 0 3 = v52 37 0 3 by rw [ev54]; exact up3_j (tcne (by omega) (by omega))))
          (try have := i_eq (show v54 37 0 4 = v52 37 0 4 by rw [ev54]; exact up3_j (tcne (by omega) (by omega))))
          (try have := i_eq (show v54 37 0 6 = v52 37 0 6 by rw [ev54]; exact up3_j (tcne (by omega) (by omega))))
          have : ((v54 36 0 3).toInt = 0 ∧ (v54 36 0 4).toInt = 0) ∨ (0 < (v54 36 0 3).toInt ∧ 0 < (v54 36 0 4).toInt) := hI_v54.2.1
          refine ok_let (fun v55 ev55 => ?_)
          have hI_v55 : IM v55 := by
            rw [ev55]
            refine hI_v54.upo (by decide) ?_
            show (0 : Int) ≤ Int32.toInt ((v54 37 0 6) ||| ((1 : Int32) <<< ((v54 37 0 4) &&& 31))) ∧ Int32.toInt ((v54 37 0 6) ||| ((1 : Int32) <<< ((v54 37 0 4) &&& 31))) ≤ (15 : Int)
            have : (0 : Int) ≤ (v54 37 0 6).toInt ∧ (v54 37 0 6).toInt ≤ (15 : Int) := hI_v54.1 37 0 6
            have : (1 : Int32).toInt = 1 := (by decide)
            have : (0 : Int) ≤ (v54 37 0 4).toInt ∧ (v54 37 0 4).toInt ≤ (4 : Int) := hI_v54.1 37 0 4
            (try have := sp_shl4 (b := (v54 37 0 4)) (by omega) (by omega))
            (try have := sp_shl5 (b := (v54 37 0 4)) (by omega) (by omega))
            (try have := sp_shl7 (b := (v54 37 0 4)) (by omega) (by omega))
            (try have := sp_shl (a := (1 : Int32)) (b := (v54 37 0 4)) (by omega) (by omega) (by omega) (by omega))
            (try have := sp_or64 (a := (v54 37 0 6)) (b := ((1 : Int32) <<< ((v54 37 0 4) &&& 31))) (by omega) (by omega) (by omega) (by omega))
            (try have := sp_or16 (a := (v54 37 0 6)) (b := ((1 : Int32) <<< ((v54 37 0 4) &&& 31))) (by omega) (by omega) (by omega) (by omega))
            omega
          have := i_eq (show v55 30 0 8 = v54 30 0 8 by rw [ev55]; exact up3_t (by decide))
          have := i_eq (show v55 30 0 11 = v54 30 0 11 by rw [ev55]; exact up3_t (by decide))
          have := i_eq (show v55 30 0 12 = v54 30 0 12 by rw [ev55]; exact up3_t (by decide))
          have := i_eq (show v55 37 0 3 = v54 37 0 3 by rw [ev55]; exact up3_j (by decide))
          have := i_eq (show v55 37 0 4 = v54 37 0 4 by rw [ev55]; exact up3_j (by decide))
          have := i_eq (show v55 37 0 6 = ((v54 37 0 6) ||| ((1 : Int32) <<< ((v54 37 0 4) &&& 31))) by rw [ev55]; exact up3_s)
          have : (0 : Int) ≤ (v54 37 0 6).toInt ∧ (v54 37 0 6).toInt ≤ (15 : Int) := hI_v54.1 37 0 6
          have : (1 : Int32).toInt = 1 := (by decide)
          have : (0 : Int) ≤ (v54 37 0 4).toInt ∧ (v54 37 0 4).toInt ≤ (4 : Int) := hI_v54.1 37 0 4
          (try have := sp_shl4 (b := (v54 37 0 4)) (by omega) (by omega))
          (try have := sp_shl5 (b := (v54 37 0 4)) (by omega) (by omega))
          (try have := sp_shl7 (b := (v54 37 0 4)) (by omega) (by omega))
          (try have := sp_shl (a := (1 : Int32)) (b := (v54 37 0 4)) (by omega) (by omega) (by omega) (by omega))
          (try have := sp_or64 (a := (v54 37 0 6)) (b := ((1 : Int32) <<< ((v54 37 0 4) &&& 31))) (by omega) (by omega) (by omega) (by omega))
          (try have := sp_or16 (a := (v54 37 0 6)) (b := ((1 : Int32) <<< ((v54 37 0 4) &&& 31))) (by omega) (by omega) (by omega) (by omega))
          have : ((v55 36 0 3).toInt = 0 ∧ (v55 36 0 4).toInt = 0) ∨ (0 < (v55 36 0 3).toInt ∧ 0 < (v55 36 0 4).toInt) := hI_v55.2.1
          refine ok_let (fun v56 ev56 => ?_)
          have hI_v56 : IM v56 := by
            rw [ev56]
            refine hI_v55.upo (by decide) ?_
            show (0 : Int) ≤ Int32.toInt ((v55 37 0 4) + 1) ∧ Int32.toInt ((v55 37 0 4) + 1) ≤ (4 : Int)
            have : (0 : Int) ≤ (v55 37 0 4).toInt ∧ (v55 37 0 4).toInt ≤ (4 : Int) := hI_v55.1 37 0 4
            have : (1 : Int32).toInt = 1 := (by decide)
            have := i_bd (v55 37 0 4)
            (first | have := sp_addx (v55 37 0 4) (1 : Int32) (by omega) | obtain ⟨k29, hk29⟩ := sp_add (v55 37 0 4) (1 : Int32))
            omega
          have := i_eq (show v56 30 0 8 = v55 30 0 8 by rw [ev56]; exact up3_t (by decide))
          have := i_eq (show v56 30 0 11 = v55 30 0 11 by rw [ev56]; exact up3_t (by decide))
          have := i_eq (show v56 30 0 12 = v55 30 0 12 by rw [ev56]; exact up3_t (by decide))
          have := i_eq (show v56 37 0 3 = v55 37 0 3 by rw [ev56]; exact up3_j (by decide))
          have := i_eq (show v56 37 0 4 = ((v55 37 0 4) + 1) by rw [ev56]; exact up3_s)
          have : (0 : Int) ≤ (v55 37 0 4).toInt ∧ (v55 37 0 4).toInt ≤ (4 : Int) := hI_v55.1 37 0 4
          have : (1 : Int32).toInt = 1 := (by decide)
          have := i_bd (v55 37 0 4)
          (first | have := sp_addx (v55 37 0 4) (1 : Int32) (by omega) | obtain ⟨k30, hk30⟩ := sp_add (v55 37 0 4) (1 : Int32))
          have := i_eq (show v56 37 0 6 = v55 37 0 6 by rw [ev56]; exact up3_j (by decide))
          have : ((v56 36 0 3).toInt = 0 ∧ (v56 36 0 4).toInt = 0) ∨ (0 < (v56 36 0 3).toInt ∧ 0 < (v56 36 0 4).toInt) := hI_v56.2.1
          refine ok_some ?_
          show IM v56 ∧ (Int32.toInt (v56 37 0 3) = Int32.toInt (v 37 0 3)) ∧ ((Int32.toInt (v 30 0 8) < 0 ∧ Int32.toInt (v56 37 0 4) = Int32.toInt (v 37 0 4) + 1) ∨ 0 ≤ Int32.toInt (v56 30 0 8))
          refine ⟨hI_v56, ?_⟩
          omega
      · skip
        have ic43 := i_ne c43
        have : (0 : Int) ≤ (v42 30 0 11).toInt ∧ (v42 30 0 11).toInt ≤ (5 : Int) := hI_v42.1 30 0 11
        have : (4 : Int32).toInt = 4 := (by decide)
        refine ok_kb2 (k_X8_takes v42 hI_v42 0 1 ) (fun r58 v59 hr58 => ?_)
        have hr58 : IM v59 ∧ (Int32.toInt (v59 37 0 3) = Int32.toInt (v42 37 0 3)) ∧ (Int32.toInt (v59 37 0 4) = Int32.toInt (v42 37 0 4)) ∧ (Int32.toInt (v42 30 0 8) < 0 ∨ 0 ≤ Int32.toInt (v59 30 0 8)) ∧ (¬ Int32.toInt 0 = 0 ∨ 0 ≤ Int32.toInt (v59 30 0 8)) ∧ (Int32.toInt r58 = 0 ∨ (Int32.toInt r58 = Int32.toInt (v42 30 0 12) ∧ ¬ Int32.toInt 0 = 0)) := hr58
        obtain ⟨hI_v59, hr58⟩ := hr58
        have : ((v59 36 0 3).toInt = 0 ∧ (v59 36 0 4).toInt = 0) ∨ (0 < (v59 36 0 3).toInt ∧ 0 < (v59 36 0 4).toInt) := hI_v59.2.1
        have : (0 : Int) ≤ (v42 37 0 3).toInt ∧ (v42 37 0 3).toInt ≤ (6 : Int) := hI_v42.1 37 0 3
        have : (0 : Int) ≤ (v42 37 0 4).toInt ∧ (v42 37 0 4).toInt ≤ (4 : Int) := hI_v42.1 37 0 4
        have : (-1 : Int) ≤ (v42 30 0 8).toInt ∧ (v42 30 0 8).toInt ≤ (100 : Int) := hI_v42.1 30 0 8
        have : (0 : Int32).toInt = 0 := (by decide)
        have : (1 : Int32).toInt = 1 := (by decide)
        refine ok_bind (k_X8_isWell v59 hI_v59  ) (fun r61 hr61 => ?_)
        have hr61 : (0 : Int) ≤ Int32.toInt r61 ∧ Int32.toInt r61 ≤ (1 : Int) ∧ ((Int32.toInt r61 = 0 ∧ 0 ≤ Int32.toInt (v59 30 0 8)) ∨ (Int32.toInt r61 = 1 ∧ Int32.toInt (v59 30 0 8) < 0)) := hr61
        have : (-1 : Int) ≤ (v59 30 0 8).toInt ∧ (v59 30 0 8).toInt ≤ (100 : Int) := hI_v59.1 30 0 8
        refine ok_ite _ (fun c63 => ?_) (fun c63 => ?_)
        · skip
          have ic63 := i_eq c63
          have : (0 : Int32).toInt = 0 := (by decide)
          refine ok_some ?_
          show IM v59 ∧ (Int32.toInt (v59 37 0 3) = Int32.toInt (v 37 0 3)) ∧ ((Int32.toInt (v 30 0 8) < 0 ∧ Int32.toInt (v59 37 0 4) = Int32.toInt (v 37 0 4) + 1) ∨ 0 ≤ Int32.toInt (v59 30 0 8))
          refine ⟨hI_v59, ?_⟩
          omega
        · skip
          have ic63 := i_ne c63
          have : (0 : Int32).toInt = 0 := (by decide)
          refine ok_grd _ ?_ ?_
          · skip
            exact gr (by omega) (by omega)
          refine ok_let (fun v65 ev65 => ?_)
          have hI_v65 : IM v65 := by
            rw [ev65]
            first | exact hI_v59.um7 (by omega) (by omega) | exact hI_v59.u07
          have := i_eq (show v65 30 0 8 = v59 30 0 8 by rw [ev65]; exact up3_t (by decide))
          have := i_eq (show v65 30 0 11 = v59 30 0 11 by rw [ev65]; exact up3_t (by decide))
          have := i_eq (show v65 30 0 12 = v59 30 0 12 by rw [ev65]; exact up3_t (by decide))
          (try have := i_eq (show v65 37 0 3 = v59 37 0 3 by rw [ev65]; exact up3_j (tcne (by omega) (by omega))))
          (try have := i_eq (show v65 37 0 4 = v59 37 0 4 by rw [ev65]; exact up3_j (tcne (by omega) (by omega))))
          (try have := i_eq (show v65 37 0 6 = v59 37 0 6 by rw [ev65]; exact up3_j (tcne (by omega) (by omega))))
          have : ((v65 36 0 3).toInt = 0 ∧ (v65 36 0 4).toInt = 0) ∨ (0 < (v65 36 0 3).toInt ∧ 0 < (v65 36 0 4).toInt) := hI_v65.2.1
          refine ok_grd _ ?_ ?_
          · skip
            have : (1 : Int32).toInt = 1 := (by decide)
            have := i_bd x39
            (first | have := sp_addx x39 (1 : Int32) (by omega) | obtain ⟨k31, hk31⟩ := sp_add x39 (1 : Int32))
            exact gr (by omega) (by omega)
          refine ok_let (fun v67 ev67 => ?_)
          have : (1 : Int32).toInt = 1 := (by decide)
          have := i_bd x39
          (first | have := sp_addx x39 (1 : Int32) (by omega) | obtain ⟨k32, hk32⟩ := sp_add x39 (1 : Int32))
          have hI_v67 : IM v67 := by
            rw [ev67]
            first | exact hI_v65.um7 (by omega) (by omega) | exact hI_v65.u07
          have := i_eq (show v67 30 0 8 = v65 30 0 8 by rw [ev67]; exact up3_t (by decide))
          have := i_eq (show v67 30 0 11 = v65 30 0 11 by rw [ev67]; exact up3_t (by decide))
          have := i_eq (show v67 30 0 12 = v65 30 0 12 by rw [ev67]; exact up3_t (by decide))
          (try have := i_eq (show v67 37 0 3 = v65 37 0 3 by rw [ev67]; exact up3_j (tcne (by omega) (by omega))))
          (try have := i_eq (show v67 37 0 4 = v65 37 0 4 by rw [ev67]; exact up3_j (tcne (by omega) (by omega))))
          (try have := i_eq (show v67 37 0 6 = v65 37 0 6 by rw [ev67]; exact up3_j (tcne (by omega) (by omega))))
          have : ((v67 36 0 3).toInt = 0 ∧ (v67 36 0 4).toInt = 0) ∨ (0 < (v67 36 0 3).toInt ∧ 0 < (v67 36 0 4).toInt) := hI_v67.2.1
          refine ok_let (fun v68 ev68 => ?_)
          have hI_v68 : IM v68 := by
            rw [ev68]
            refine hI_v67.upo (by decide) ?_
            show (0 : Int) ≤ Int32.toInt ((v67 37 0 6) ||| ((1 : Int32) <<< ((v67 37 0 4) &&& 31))) ∧ Int32.toInt ((v67 37 0 6) ||| ((1 : Int32) <<< ((v67 37 0 4) &&& 31))) ≤ (15 : Int)
            have : (0 : Int) ≤ (v67 37 0 6).toInt ∧ (v67 37 0 6).toInt ≤ (15 : Int) := hI_v67.1 37 0 6
            have : (1 : Int32).toInt = 1 := (by decide)
            have : (0 : Int) ≤ (v67 37 0 4).toInt ∧ (v67 37 0 4).toInt ≤ (4 : Int) := hI_v67.1 37 0 4
            (try have := sp_shl4 (b := (v67 37 0 4)) (by omega) (by omega))
            (try have := sp_shl5 (b := (v67 37 0 4)) (by omega) (by omega))
            (try have := sp_shl7 (b := (v67 37 0 4)) (by omega) (by omega))
            (try have := sp_shl (a := (1 : Int32)) (b := (v67 37 0 4)) (by omega) (by omega) (by omega) (by omega))
            (try have := sp_or64 (a := (v67 37 0 6)) (b := ((1 : Int32) <<< ((v67 37 0 4) &&& 31))) (by omega) (by omega) (by omega) (by omega))
            (try have := sp_or16 (a := (v67 37 0 6)) (b := ((1 : Int32) <<< ((v67 37 0 4) &&& 31))) (by omega) (by omega) (by omega) (by omega))
            omega
          have := i_eq (show v68 30 0 8 = v67 30 0 8 by rw [ev68]; exact up3_t (by decide))
          have := i_eq (show v68 30 0 11 = v67 30 0 11 by rw [ev68]; exact up3_t (by decide))
          have := i_eq (show v68 30 0 12 = v67 30 0 12 by rw [ev68]; exact up3_t (by decide))
          have := i_eq (show v68 37 0 3 = v67 37 0 3 by rw [ev68]; exact up3_j (by decide))
          have := i_eq (show v68 37 0 4 = v67 37 0 4 by rw [ev68]; exact up3_j (by decide))
          have := i_eq (show v68 37 0 6 = ((v67 37 0 6) ||| ((1 : Int32) <<< ((v67 37 0 4) &&& 31))) by rw [ev68]; exact up3_s)
          have : (0 : Int) ≤ (v67 37 0 6).toInt ∧ (v67 37 0 6).toInt ≤ (15 : Int) := hI_v67.1 37 0 6
          have : (1 : Int32).toInt = 1 := (by decide)
          have : (0 : Int) ≤ (v67 37 0 4).toInt ∧ (v67 37 0 4).toInt ≤ (4 : Int) := hI_v67.1 37 0 4
          (try have := sp_shl4 (b := (v67 37 0 4)) (by omega) (by omega))
          (try have := sp_shl5 (b := (v67 37 0 4)) (by omega) (by omega))
          (try have := sp_shl7 (b := (v67 37 0 4)) (by omega) (by omega))
          (try have := sp_shl (a := (1 : Int32)) (b := (v67 37 0 4)) (by omega) (by omega) (by omega) (by omega))
          (try have := sp_or64 (a := (v67 37 0 6)) (b := ((1 : Int32) <<< ((v67 37 0 4) &&& 31))) (by omega) (by omega) (by omega) (by omega))
          (try have := sp_or16 (a := (v67 37 0 6)) (b := ((1 : Int32) <<< ((v67 37 0 4) &&& 31))) (by omega) (by omega) (by omega) (by omega))
          have : ((v68 36 0 3).toInt = 0 ∧ (v68 36 0 4).toInt = 0) ∨ (0 < (v68 36 0 3).toInt ∧ 0 < (v68 36 0 4).toInt) := hI_v68.2.1
          refine ok_let (fun v69 ev69 => ?_)
          have hI_v69 : IM v69 := by
            rw [ev69]
            refine hI_v68.upo (by decide) ?_
            show (0 : Int) ≤ Int32.toInt ((v68 37 0 4) + 1) ∧ Int32.toInt ((v68 37 0 4) + 1) ≤ (4 : Int)
            have : (0 : Int) ≤ (v68 37 0 4).toInt ∧ (v68 37 0 4).toInt ≤ (4 : Int) := hI_v68.1 37 0 4
            have : (1 : Int32).toInt = 1 := (by decide)
            have := i_bd (v68 37 0 4)
            (first | have := sp_addx (v68 37 0 4) (1 : Int32) (by omega) | obtain ⟨k33, hk33⟩ := sp_add (v68 37 0 4) (1 : Int32))
            omega
          have := i_eq (show v69 30 0 8 = v68 30 0 8 by rw [ev69]; exact up3_t (by decide))
          have := i_eq (show v69 30 0 11 = v68 30 0 11 by rw [ev69]; exact up3_t (by decide))
          have := i_eq (show v69 30 0 12 = v68 30 0 12 by rw [ev69]; exact up3_t (by decide))
          have := i_eq (show v69 37 0 3 = v68 37 0 3 by rw [ev69]; exact up3_j (by decide))
          have := i_eq (show v69 37 0 4 = ((v68 37 0 4) + 1) by rw [ev69]; exact up3_s)
          have : (0 : Int) ≤ (v68 37 0 4).toInt ∧ (v68 37 0 4).toInt ≤ (4 : Int) := hI_v68.1 37 0 4
          have : (1 : Int32).toInt = 1 := (by decide)
          have := i_bd (v68 37 0 4)
          (first | have := sp_addx (v68 37 0 4) (1 : Int32) (by omega) | obtain ⟨k34, hk34⟩ := sp_add (v68 37 0 4) (1 : Int32))
          have := i_eq (show v69 37 0 6 = v68 37 0 6 by rw [ev69]; exact up3_j (by decide))
          have : ((v69 36 0 3).toInt = 0 ∧ (v69 36 0 4).toInt = 0) ∨ (0 < (v69 36 0 3).toInt ∧ 0 < (v69 36 0 4).toInt) := hI_v69.2.1
          refine ok_some ?_
          show IM v69 ∧ (Int32.toInt (v69 37 0 3) = Int32.toInt (v 37 0 3)) ∧ ((Int32.toInt (v 30 0 8) < 0 ∧ Int32.toInt (v69 37 0 4) = Int32.toInt (v 37 0 4) + 1) ∨ 0 ≤ Int32.toInt (v69 30 0 8))
          refine ⟨hI_v69, ?_⟩
          omega
  · skip
    have ic4 := i_nle c4
    have : (0 : Int) ≤ (v 37 0 4).toInt ∧ (v 37 0 4).toInt ≤ (4 : Int) := hI_v.1 37 0 4
    have : (4 : Int32).toInt = 4 := (by decide)
    refine ok_kb2 (k_X8_takes v hI_v 1 3 ) (fun r71 v72 hr71 => ?_)
    have hr71 : IM v72 ∧ (Int32.toInt (v72 37 0 3) = Int32.toInt (v 37 0 3)) ∧ (Int32.toInt (v72 37 0 4) = Int32.toInt (v 37 0 4)) ∧ (Int32.toInt (v 30 0 8) < 0 ∨ 0 ≤ Int32.toInt (v72 30 0 8)) ∧ (¬ Int32.toInt 1 = 0 ∨ 0 ≤ Int32.toInt (v72 30 0 8)) ∧ (Int32.toInt r71 = 0 ∨ (Int32.toInt r71 = Int32.toInt (v 30 0 12) ∧ ¬ Int32.toInt 1 = 0)) := hr71
    obtain ⟨hI_v72, hr71⟩ := hr71
    have : ((v72 36 0 3).toInt = 0 ∧ (v72 36 0 4).toInt = 0) ∨ (0 < (v72 36 0 3).toInt ∧ 0 < (v72 36 0 4).toInt) := hI_v72.2.1
    have : (0 : Int) ≤ (v 37 0 3).toInt ∧ (v 37 0 3).toInt ≤ (6 : Int) := hI_v.1 37 0 3
    have : (0 : Int) ≤ (v 37 0 4).toInt ∧ (v 37 0 4).toInt ≤ (4 : Int) := hI_v.1 37 0 4
    have : (-1 : Int) ≤ (v 30 0 8).toInt ∧ (v 30 0 8).toInt ≤ (100 : Int) := hI_v.1 30 0 8
    have : (1 : Int32).toInt = 1 := (by decide)
    have : (3 : Int32).toInt = 3 := (by decide)
    refine ok_ite _ (fun c73 => ?_) (fun c73 => ?_)
    · skip
      have ic73 := i_le c73
      have : (0 : Int) ≤ (v72 37 0 4).toInt ∧ (v72 37 0 4).toInt ≤ (4 : Int) := hI_v72.1 37 0 4
      have : (4 : Int32).toInt = 4 := (by decide)
      refine ok_kb2 (k_X8_figure v72 hI_v72 0 9 (by have : (0 : Int32).toInt = 0 := (by decide); omega) (by have : (9 : Int32).toInt = 9 := (by decide); omega)) (fun r75 v76 hr75 => ?_)
      have hr75 : IM v76 ∧ (0 : Int) ≤ Int32.toInt r75 ∧ Int32.toInt r75 ≤ (9 : Int) ∧ (Int32.toInt (v76 37 0 3) = Int32.toInt (v72 37 0 3)) ∧ (Int32.toInt (v76 37 0 4) = Int32.toInt (v72 37 0 4)) ∧ (Int32.toInt (v72 30 0 8) < 0 ∨ 0 ≤ Int32.toInt (v76 30 0 8)) ∧ (Int32.toInt r75 ≤ Int32.toInt 9) := hr75
      obtain ⟨hI_v76, hr75⟩ := hr75
      have : ((v76 36 0 3).toInt = 0 ∧ (v76 36 0 4).toInt = 0) ∨ (0 < (v76 36 0 3).toInt ∧ 0 < (v76 36 0 4).toInt) := hI_v76.2.1
      have : (0 : Int) ≤ (v72 37 0 3).toInt ∧ (v72 37 0 3).toInt ≤ (6 : Int) := hI_v72.1 37 0 3
      have : (0 : Int) ≤ (v72 37 0 4).toInt ∧ (v72 37 0 4).toInt ≤ (4 : Int) := hI_v72.1 37 0 4
      have : (-1 : Int) ≤ (v72 30 0 8).toInt ∧ (v72 30 0 8).toInt ≤ (100 : Int) := hI_v72.1 30 0 8
      have : (0 : Int32).toInt = 0 := (by decide)
      have : (9 : Int32).toInt = 9 := (by decide)
      refine ok_ite _ (fun c77 => ?_) (fun c77 => ?_)
      · skip
        have ic77 := i_eq c77
        have : (0 : Int) ≤ (v76 30 0 11).toInt ∧ (v76 30 0 11).toInt ≤ (5 : Int) := hI_v76.1 30 0 11
        have : (4 : Int32).toInt = 4 := (by decide)
        refine ok_kb2 (k_X8_takes v76 hI_v76 1 1 ) (fun r79 v80 hr79 => ?_)
        have hr79 : IM v80 ∧ (Int32.toInt (v80 37 0 3) = Int32.toInt (v76 37 0 3)) ∧ (Int32.toInt (v80 37 0 4) = Int32.toInt (v76 37 0 4)) ∧ (Int32.toInt (v76 30 0 8) < 0 ∨ 0 ≤ Int32.toInt (v80 30 0 8)) ∧ (¬ Int32.toInt 1 = 0 ∨ 0 ≤ Int32.toInt (v80 30 0 8)) ∧ (Int32.toInt r79 = 0 ∨ (Int32.toInt r79 = Int32.toInt (v76 30 0 12) ∧ ¬ Int32.toInt 1 = 0)) := hr79
        obtain ⟨hI_v80, hr79⟩ := hr79
        have : ((v80 36 0 3).toInt = 0 ∧ (v80 36 0 4).toInt = 0) ∨ (0 < (v80 36 0 3).toInt ∧ 0 < (v80 36 0 4).toInt) := hI_v80.2.1
        have : (0 : Int) ≤ (v76 37 0 3).toInt ∧ (v76 37 0 3).toInt ≤ (6 : Int) := hI_v76.1 37 0 3
        have : (0 : Int) ≤ (v76 37 0 4).toInt ∧ (v76 37 0 4).toInt ≤ (4 : Int) := hI_v76.1 37 0 4
        have : (-1 : Int) ≤ (v76 30 0 8).toInt ∧ (v76 30 0 8).toInt ≤ (100 : Int) := hI_v76.1 30 0 8
        have : (1 : Int32).toInt = 1 := (by decide)
        refine ok_bind (k_X8_isWell v80 hI_v80  ) (fun r82 hr82 => ?_)
        have hr82 : (0 : Int) ≤ Int32.toInt r82 ∧ Int32.toInt r82 ≤ (1 : Int) ∧ ((Int32.toInt r82 = 0 ∧ 0 ≤ Int32.toInt (v80 30 0 8)) ∨ (Int32.toInt r82 = 1 ∧ Int32.toInt (v80 30 0 8) < 0)) := hr82
        have : (-1 : Int) ≤ (v80 30 0 8).toInt ∧ (v80 30 0 8).toInt ≤ (100 : Int) := hI_v80.1 30 0 8
        refine ok_ite _ (fun c84 => ?_) (fun c84 => ?_)
        · skip
          have ic84 := i_eq c84
          have : (0 : Int32).toInt = 0 := (by decide)
          refine ok_some ?_
          show IM v80 ∧ (Int32.toInt (v80 37 0 3) = Int32.toInt (v 37 0 3)) ∧ ((Int32.toInt (v 30 0 8) < 0 ∧ Int32.toInt (v80 37 0 4) = Int32.toInt (v 37 0 4) + 1) ∨ 0 ≤ Int32.toInt (v80 30 0 8))
          refine ⟨hI_v80, ?_⟩
          omega
        · skip
          have ic84 := i_ne c84
          have : (0 : Int32).toInt = 0 := (by decide)
          refine ok_grd _ ?_ ?_
          · skip
            have : (26 : Int32).toInt = 26 := (by decide)
            have : (3 : Int32).toInt = 3 := (by decide)
            have : (0 : Int32).toInt = 0 := (by decide)
            (first | have := sp_mulcx (3 : Int32) (0 : Int32) 0 (by decide) (by omega) | obtain ⟨k35, hk35⟩ := sp_mulc (3 : Int32) (0 : Int32) 0 (by decide))
            (first | have := sp_addx (26 : Int32) ((3 : Int32) * 0) (by omega) | obtain ⟨k36, hk36⟩ := sp_add (26 : Int32) ((3 : Int32) * 0))
            exact gr (by omega) (by omega)
          refine ok_let (fun v86 ev86 => ?_)
          have : (26 : Int32).toInt = 26 := (by decide)
          have : (3 : Int32).toInt = 3 := (by decide)
          have : (0 : Int32).toInt = 0 := (by decide)
          (first | have := sp_mulcx (3 : Int32) (0 : Int32) 0 (by decide) (by omega) | obtain ⟨k37, hk37⟩ := sp_mulc (3 : Int32) (0 : Int32) 0 (by decide))
          (first | have := sp_addx (26 : Int32) ((3 : Int32) * 0) (by omega) | obtain ⟨k38, hk38⟩ := sp_add (26 : Int32) ((3 : Int32) * 0))
          have hI_v86 : IM v86 := by
            rw [ev86]
            first | exact hI_v80.um7 (by omega) (by omega) | exact hI_v80.u07
          have := i_eq (show v86 30 0 8 = v80 30 0 8 by rw [ev86]; exact up3_t (by decide))
          have := i_eq (show v86 30 0 11 = v80 30 0 11 by rw [ev86]; exact up3_t (by decide))
          have := i_eq (show v86 30 0 12 = v80 30 0 12 by rw [ev86]; exact up3_t (by decide))
          (try have := i_eq (show v86 37 0 3 = v80 37 0 3 by rw [ev86]; exact up3_j (tcne (by omega) (by omega))))
          (try have := i_eq (show v86 37 0 4 = v80 37 0 4 by rw [ev86]; exact up3_j (tcne (by omega) (by omega))))
          (try have := i_eq (show v86 37 0 6 = v80 37 0 6 by rw [ev86]; exact up3_j (tcne (by omega) (by omega))))
          have : ((v86 36 0 3).toInt = 0 ∧ (v86 36 0 4).toInt = 0) ∨ (0 < (v86 36 0 3).toInt ∧ 0 < (v86 36 0 4).toInt) := hI_v86.2.1
          refine ok_grd _ ?_ ?_
          · skip
            have : (26 : Int32).toInt = 26 := (by decide)
            have : (3 : Int32).toInt = 3 := (by decide)
            have : (0 : Int32).toInt = 0 := (by decide)
            (first | have := sp_mulcx (3 : Int32) (0 : Int32) 0 (by decide) (by omega) | obtain ⟨k39, hk39⟩ := sp_mulc (3 : Int32) (0 : Int32) 0 (by decide))
            (first | have := sp_addx (26 : Int32) ((3 : Int32) * 0) (by omega) | obtain ⟨k40, hk40⟩ := sp_add (26 : Int32) ((3 : Int32) * 0))
            have : (1 : Int32).toInt = 1 := (by decide)
            (first | have := sp_addx ((26 : Int32) + ((3 : Int32) * 0)) (1 : Int32) (by omega) | obtain ⟨k41, hk41⟩ := sp_add ((26 : Int32) + ((3 : Int32) * 0)) (1 : Int32))
            exact gr (by omega) (by omega)
          refine ok_let (fun v88 ev88 => ?_)
          have : (26 : Int32).toInt = 26 := (by decide)
          have : (3 : Int32).toInt = 3 := (by decide)
          have : (0 : Int32).toInt = 0 := (by decide)
          (first | have := sp_mulcx (3 : Int32) (0 : Int32) 0 (by decide) (by omega) | obtain ⟨k42, hk42⟩ := sp_mulc (3 : Int32) (0 : Int32) 0 (by decide))
          (first | have := sp_addx (26 : Int32) ((3 : Int32) * 0) (by omega) | obtain ⟨k43, hk43⟩ := sp_add (26 : Int32) ((3 : Int32) * 0))
          have : (1 : Int32).toInt = 1 := (by decide)
          (first | have := sp_addx ((26 : Int32) + ((3 : Int32) * 0)) (1 : Int32) (by omega) | obtain ⟨k44, hk44⟩ := sp_add ((26 : Int32) + ((3 : Int32) * 0)) (1 : Int32))
          have hI_v88 : IM v88 := by
            rw [ev88]
            first | exact hI_v86.um7 (by omega) (by omega) | exact hI_v86.u07
          have := i_eq (show v88 30 0 8 = v86 30 0 8 by rw [ev88]; exact up3_t (by decide))
          have := i_eq (show v88 30 0 11 = v86 30 0 11 by rw [ev88]; exact up3_t (by decide))
          have := i_eq (show v88 30 0 12 = v86 30 0 12 by rw [ev88]; exact up3_t (by decide))
          (try have := i_eq (show v88 37 0 3 = v86 37 0 3 by rw [ev88]; exact up3_j (tcne (by omega) (by omega))))
          (try have := i_eq (show v88 37 0 4 = v86 37 0 4 by rw [ev88]; exact up3_j (tcne (by omega) (by omega))))
          (try have := i_eq (show v88 37 0 6 = v86 37 0 6 by rw [ev88]; exact up3_j (tcne (by omega) (by omega))))
          have : ((v88 36 0 3).toInt = 0 ∧ (v88 36 0 4).toInt = 0) ∨ (0 < (v88 36 0 3).toInt ∧ 0 < (v88 36 0 4).toInt) := hI_v88.2.1
          refine ok_let (fun v89 ev89 => ?_)
          have hI_v89 : IM v89 := by
            rw [ev89]
            refine hI_v88.upo (by decide) ?_
            show (0 : Int) ≤ Int32.toInt ((v88 37 0 6) ||| ((1 : Int32) <<< ((v88 37 0 4) &&& 31))) ∧ Int32.toInt ((v88 37 0 6) ||| ((1 : Int32) <<< ((v88 37 0 4) &&& 31))) ≤ (15 : Int)
            have : (0 : Int) ≤ (v88 37 0 6).toInt ∧ (v88 37 0 6).toInt ≤ (15 : Int) := hI_v88.1 37 0 6
            have : (1 : Int32).toInt = 1 := (by decide)
            have : (0 : Int) ≤ (v88 37 0 4).toInt ∧ (v88 37 0 4).toInt ≤ (4 : Int) := hI_v88.1 37 0 4
            (try have := sp_shl4 (b := (v88 37 0 4)) (by omega) (by omega))
            (try have := sp_shl5 (b := (v88 37 0 4)) (by omega) (by omega))
            (try have := sp_shl7 (b := (v88 37 0 4)) (by omega) (by omega))
            (try have := sp_shl (a := (1 : Int32)) (b := (v88 37 0 4)) (by omega) (by omega) (by omega) (by omega))
            (try have := sp_or64 (a := (v88 37 0 6)) (b := ((1 : Int32) <<< ((v88 37 0 4) &&& 31))) (by omega) (by omega) (by omega) (by omega))
            (try have := sp_or16 (a := (v88 37 0 6)) (b := ((1 : Int32) <<< ((v88 37 0 4) &&& 31))) (by omega) (by omega) (by omega) (by omega))
            omega
          have := i_eq (show v89 30 0 8 = v88 30 0 8 by rw [ev89]; exact up3_t (by decide))
          have := i_eq (show v89 30 0 11 = v88 30 0 11 by rw [ev89]; exact up3_t (by decide))
          have := i_eq (show v89 30 0 12 = v88 30 0 12 by rw [ev89]; exact up3_t (by decide))
          have := i_eq (show v89 37 0 3 = v88 37 0 3 by rw [ev89]; exact up3_j (by decide))
          have := i_eq (show v89 37 0 4 = v88 37 0 4 by rw [ev89]; exact up3_j (by decide))
          have := i_eq (show v89 37 0 6 = ((v88 37 0 6) ||| ((1 : Int32) <<< ((v88 37 0 4) &&& 31))) by rw [ev89]; exact up3_s)
          have : (0 : Int) ≤ (v88 37 0 6).toInt ∧ (v88 37 0 6).toInt ≤ (15 : Int) := hI_v88.1 37 0 6
          have : (1 : Int32).toInt = 1 := (by decide)
          have : (0 : Int) ≤ (v88 37 0 4).toInt ∧ (v88 37 0 4).toInt ≤ (4 : Int) := hI_v88.1 37 0 4
          (try have := sp_shl4 (b := (v88 37 0 4)) (by omega) (by omega))
          (try have := sp_shl5 (b := (v88 37 0 4)) (by omega) (by omega))
          (try have := sp_shl7 (b := (v88 37 0 4)) (by omega) (by omega))
          (try have := sp_shl (a := (1 : Int32)) (b := (v88 37 0 4)) (by omega) (by omega) (by omega) (by omega))
          (try have := sp_or64 (a := (v88 37 0 6)) (b := ((1 : Int32) <<< ((v88 37 0 4) &&& 31))) (by omega) (by omega) (by omega) (by omega))
          (try have := sp_or16 (a := (v88 37 0 6)) (b := ((1 : Int32) <<< ((v88 37 0 4) &&& 31))) (by omega) (by omega) (by omega) (by omega))
          have : ((v89 36 0 3).toInt = 0 ∧ (v89 36 0 4).toInt = 0) ∨ (0 < (v89 36 0 3).toInt ∧ 0 < (v89 36 0 4).toInt) := hI_v89.2.1
          refine ok_let (fun v90 ev90 => ?_)
          have hI_v90 : IM v90 := by
            rw [ev90]
            refine hI_v89.upo (by decide) ?_
            show (0 : Int) ≤ Int32.toInt ((v89 37 0 4) + 1) ∧ Int32.toInt ((v89 37 0 4) + 1) ≤ (4 : Int)
            have : (0 : Int) ≤ (v89 37 0 4).toInt ∧ (v89 37 0 4).toInt ≤ (4 : Int) := hI_v89.1 37 0 4
            have : (1 : Int32).toInt = 1 := (by decide)
            have := i_bd (v89 37 0 4)
            (first | have := sp_addx (v89 37 0 4) (1 : Int32) (by omega) | obtain ⟨k45, hk45⟩ := sp_add (v89 37 0 4) (1 : Int32))
            omega
          have := i_eq (show v90 30 0 8 = v89 30 0 8 by rw [ev90]; exact up3_t (by decide))
          have := i_eq (show v90 30 0 11 = v89 30 0 11 by rw [ev90]; exact up3_t (by decide))
          have := i_eq (show v90 30 0 12 = v89 30 0 12 by rw [ev90]; exact up3_t (by decide))
          have := i_eq (show v90 37 0 3 = v89 37 0 3 by rw [ev90]; exact up3_j (by decide))
          have := i_eq (show v90 37 0 4 = ((v89 37 0 4) + 1) by rw [ev90]; exact up3_s)
          have : (0 : Int) ≤ (v89 37 0 4).toInt ∧ (v89 37 0 4).toInt ≤ (4 : Int) := hI_v89.1 37 0 4
          have : (1 : Int32).toInt = 1 := (by decide)
          have := i_bd (v89 37 0 4)
          (first | have := sp_addx (v89 37 0 4) (1 : Int32) (by omega) | obtain ⟨k46, hk46⟩ := sp_add (v89 37 0 4) (1 : Int32))
          have := i_eq (show v90 37 0 6 = v89 37 0 6 by rw [ev90]; exact up3_j (by decide))
          have : ((v90 36 0 3).toInt = 0 ∧ (v90 36 0 4).toInt = 0) ∨ (0 < (v90 36 0 3).toInt ∧ 0 < (v90 36 0 4).toInt) := hI_v90.2.1
          refine ok_some ?_
          show IM v90 ∧ (Int32.toInt (v90 37 0 3) = Int32.toInt (v 37 0 3)) ∧ ((Int32.toInt (v 30 0 8) < 0 ∧ Int32.toInt (v90 37 0 4) = Int32.toInt (v 37 0 4) + 1) ∨ 0 ≤ Int32.toInt (v90 30 0 8))
          refine ⟨hI_v90, ?_⟩
          omega
      · skip
        have ic77 := i_ne c77
        have : (0 : Int) ≤ (v76 30 0 11).toInt ∧ (v76 30 0 11).toInt ≤ (5 : Int) := hI_v76.1 30 0 11
        have : (4 : Int32).toInt = 4 := (by decide)
        refine ok_kb2 (k_X8_takes v76 hI_v76 0 1 ) (fun r92 v93 hr92 => ?_)
        have hr92 : IM v93 ∧ (Int32.toInt (v93 37 0 3) = Int32.toInt (v76 37 0 3)) ∧ (Int32.toInt (v93 37 0 4) = Int32.toInt (v76 37 0 4)) ∧ (Int32.toInt (v76 30 0 8) < 0 ∨ 0 ≤ Int32.toInt (v93 30 0 8)) ∧ (¬ Int32.toInt 0 = 0 ∨ 0 ≤ Int32.toInt (v93 30 0 8)) ∧ (Int32.toInt r92 = 0 ∨ (Int32.toInt r92 = Int32.toInt (v76 30 0 12) ∧ ¬ Int32.toInt 0 = 0)) := hr92
        obtain ⟨hI_v93, hr92⟩ := hr92
        have : ((v93 36 0 3).toInt = 0 ∧ (v93 36 0 4).toInt = 0) ∨ (0 < (v93 36 0 3).toInt ∧ 0 < (v93 36 0 4).toInt) := hI_v93.2.1
        have : (0 : Int) ≤ (v76 37 0 3).toInt ∧ (v76 37 0 3).toInt ≤ (6 : Int) := hI_v76.1 37 0 3
        have : (0 : Int) ≤ (v76 37 0 4).toInt ∧ (v76 37 0 4).toInt ≤ (4 : Int) := hI_v76.1 37 0 4
        have : (-1 : Int) ≤ (v76 30 0 8).toInt ∧ (v76 30 0 8).toInt ≤ (100 : Int) := hI_v76.1 30 0 8
        have : (0 : Int32).toInt = 0 := (by decide)
        have : (1 : Int32).toInt = 1 := (by decide)
        refine ok_bind (k_X8_isWell v93 hI_v93  ) (fun r95 hr95 => ?_)
        have hr95 : (0 : Int) ≤ Int32.toInt r95 ∧ Int32.toInt r95 ≤ (1 : Int) ∧ ((Int32.toInt r95 = 0 ∧ 0 ≤ Int32.toInt (v93 30 0 8)) ∨ (Int32.toInt r95 = 1 ∧ Int32.toInt (v93 30 0 8) < 0)) := hr95
        have : (-1 : Int) ≤ (v93 30 0 8).toInt ∧ (v93 30 0 8).toInt ≤ (100 : Int) := hI_v93.1 30 0 8
        refine ok_ite _ (fun c97 => ?_) (fun c97 => ?_)
        · skip
          have ic97 := i_eq c97
          have : (0 : Int32).toInt = 0 := (by decide)
          refine ok_some ?_
          show IM v93 ∧ (Int32.toInt (v93 37 0 3) = Int32.toInt (v 37 0 3)) ∧ ((Int32.toInt (v 30 0 8) < 0 ∧ Int32.toInt (v93 37 0 4) = Int32.toInt (v 37 0 4) + 1) ∨ 0 ≤ Int32.toInt (v93 30 0 8))
          refine ⟨hI_v93, ?_⟩
          omega
        · skip
          have ic97 := i_ne c97
          have : (0 : Int32).toInt = 0 := (by decide)
          refine ok_grd _ ?_ ?_
          · skip
            have : (26 : Int32).toInt = 26 := (by decide)
            have : (3 : Int32).toInt = 3 := (by decide)
            have : (0 : Int32).toInt = 0 := (by decide)
            (first | have := sp_mulcx (3 : Int32) (0 : Int32) 0 (by decide) (by omega) | obtain ⟨k47, hk47⟩ := sp_mulc (3 : Int32) (0 : Int32) 0 (by decide))
            (first | have := sp_addx (26 : Int32) ((3 : Int32) * 0) (by omega) | obtain ⟨k48, hk48⟩ := sp_add (26 : Int32) ((3 : Int32) * 0))
            exact gr (by omega) (by omega)
          refine ok_let (fun v99 ev99 => ?_)
          have : (26 : Int32).toInt = 26 := (by decide)
          have : (3 : Int32).toInt = 3 := (by decide)
          have : (0 : Int32).toInt = 0 := (by decide)
          (first | have := sp_mulcx (3 : Int32) (0 : Int32) 0 (by decide) (by omega) | obtain ⟨k49, hk49⟩ := sp_mulc (3 : Int32) (0 : Int32) 0 (by decide))
          (first | have := sp_addx (26 : Int32) ((3 : Int32) * 0) (by omega) | obtain ⟨k50, hk50⟩ := sp_add (26 : Int32) ((3 : Int32) * 0))
          have hI_v99 : IM v99 := by
            rw [ev99]
            first | exact hI_v93.um7 (by omega) (by omega) | exact hI_v93.u07
          have := i_eq (show v99 30 0 8 = v93 30 0 8 by rw [ev99]; exact up3_t (by decide))
          have := i_eq (show v99 30 0 11 = v93 30 0 11 by rw [ev99]; exact up3_t (by decide))
          have := i_eq (show v99 30 0 12 = v93 30 0 12 by rw [ev99]; exact up3_t (by decide))
          (try have := i_eq (show v99 37 0 3 = v93 37 0 3 by rw [ev99]; exact up3_j (tcne (by omega) (by omega))))
          (try have := i_eq (show v99 37 0 4 = v93 37 0 4 by rw [ev99]; exact up3_j (tcne (by omega) (by omega))))
          (try have := i_eq (show v99 37 0 6 = v93 37 0 6 by rw [ev99]; exact up3_j (tcne (by omega) (by omega))))
          have : ((v99 36 0 3).toInt = 0 ∧ (v99 36 0 4).toInt = 0) ∨ (0 < (v99 36 0 3).toInt ∧ 0 < (v99 36 0 4).toInt) := hI_v99.2.1
          refine ok_grd _ ?_ ?_
          · skip
            have : (26 : Int32).toInt = 26 := (by decide)
            have : (3 : Int32).toInt = 3 := (by decide)
            have : (0 : Int32).toInt = 0 := (by decide)
            (first | have := sp_mulcx (3 : Int32) (0 : Int32) 0 (by decide) (by omega) | obtain ⟨k51, hk51⟩ := sp_mulc (3 : Int32) (0 : Int32) 0 (by decide))
            (first | have := sp_addx (26 : Int32) ((3 : Int32) * 0) (by omega) | obtain ⟨k52, hk52⟩ := sp_add (26 : Int32) ((3 : Int32) * 0))
            have : (1 : Int32).toInt = 1 := (by decide)
            (first | have := sp_addx ((26 : Int32) + ((3 : Int32) * 0)) (1 : Int32) (by omega) | obtain ⟨k53, hk53⟩ := sp_add ((26 : Int32) + ((3 : Int32) * 0)) (1 : Int32))
            exact gr (by omega) (by omega)
          refine ok_let (fun v101 ev101 => ?_)
          have : (26 : Int32).toInt = 26 := (by decide)
          have : (3 : Int32).toInt = 3 := (by decide)
          have : (0 : Int32).toInt = 0 := (by decide)
          (first | have := sp_mulcx (3 : Int32) (0 : Int32) 0 (by decide) (by omega) | obtain ⟨k54, hk54⟩ := sp_mulc (3 : Int32) (0 : Int32) 0 (by decide))
          (first | have := sp_addx (26 : Int32) ((3 : Int32) * 0) (by omega) | obtain ⟨k55, hk55⟩ := sp_add (26 : Int32) ((3 : Int32) * 0))
          have : (1 : Int32).toInt = 1 := (by decide)
          (first | have := sp_addx ((26 : Int32) + ((3 : Int32) * 0)) (1 : Int32) (by omega) | obtain ⟨k56, hk56⟩ := sp_add ((26 : Int32) + ((3 : Int32) * 0)) (1 : Int32))
          have hI_v101 : IM v101 := by
            rw [ev101]
            first | exact hI_v99.um7 (by omega) (by omega) | exact hI_v99.u07
          have := i_eq (show v101 30 0 8 = v99 30 0 8 by rw [ev101]; exact up3_t (by decide))
          have := i_eq (show v101 30 0 11 = v99 30 0 11 by rw [ev101]; exact up3_t (by decide))
          have := i_eq (show v101 30 0 12 = v99 30 0 12 by rw [ev101]; exact up3_t (by decide))
          (try have := i_eq (show v101 37 0 3 = v99 37 0 3 by rw [ev101]; exact up3_j (tcne (by omega) (by omega))))
          (try have := i_eq (show v101 37 0 4 = v99 37 0 4 by rw [ev101]; exact up3_j (tcne (by omega) (by omega))))
          (try have := i_eq (show v101 37 0 6 = v99 37 0 6 by rw [ev101]; exact up3_j (tcne (by omega) (by omega))))
          have : ((v101 36 0 3).toInt = 0 ∧ (v101 36 0 4).toInt = 0) ∨ (0 < (v101 36 0 3).toInt ∧ 0 < (v101 36 0 4).toInt) := hI_v101.2.1
          refine ok_let (fun v102 ev102 => ?_)
          have hI_v102 : IM v102 := by
            rw [ev102]
            refine hI_v101.upo (by decide) ?_
            show (0 : Int) ≤ Int32.toInt ((v101 37 0 6) ||| ((1 : Int32) <<< ((v101 37 0 4) &&& 31))) ∧ Int32.toInt ((v101 37 0 6) ||| ((1 : Int32) <<< ((v101 37 0 4) &&& 31))) ≤ (15 : Int)
            have : (0 : Int) ≤ (v101 37 0 6).toInt ∧ (v101 37 0 6).toInt ≤ (15 : Int) := hI_v101.1 37 0 6
            have : (1 : Int32).toInt = 1 := (by decide)
            have : (0 : Int) ≤ (v101 37 0 4).toInt ∧ (v101 37 0 4).toInt ≤ (4 : Int) := hI_v101.1 37 0 4
            (try have := sp_shl4 (b := (v101 37 0 4)) (by omega) (by omega))
            (try have := sp_shl5 (b := (v101 37 0 4)) (by omega) (by omega))
            (try have := sp_shl7 (b := (v101 37 0 4)) (by omega) (by omega))
            (try have := sp_shl (a := (1 : Int32)) (b := (v101 37 0 4)) (by omega) (by omega) (by omega) (by omega))
            (try have := sp_or64 (a := (v101 37 0 6)) (b := ((1 : Int32) <<< ((v101 37 0 4) &&& 31))) (by omega) (by omega) (by omega) (by omega))
            (try have := sp_or16 (a := (v101 37 0 6)) (b := ((1 : Int32) <<< ((v101 37 0 4) &&& 31))) (by omega) (by omega) (by omega) (by omega))
            omega
          have := i_eq (show v102 30 0 8 = v101 30 0 8 by rw [ev102]; exact up3_t (by decide))
          have := i_eq (show v102 30 0 11 = v101 30 0 11 by rw [ev102]; exact up3_t (by decide))
          have := i_eq (show v102 30 0 12 = v101 30 0 12 by rw [ev102]; exact up3_t (by decide))
          have := i_eq (show v102 37 0 3 = v101 37 0 3 by rw [ev102]; exact up3_j (by decide))
          have := i_eq (show v102 37 0 4 = v101 37 0 4 by rw [ev102]; exact up3_j (by decide))
          have := i_eq (show v102 37 0 6 = ((v101 37 0 6) ||| ((1 : Int32) <<< ((v101 37 0 4) &&& 31))) by rw [ev102]; exact up3_s)
          have : (0 : Int) ≤ (v101 37 0 6).toInt ∧ (v101 37 0 6).toInt ≤ (15 : Int) := hI_v101.1 37 0 6
          have : (1 : Int32).toInt = 1 := (by decide)
          have : (0 : Int) ≤ (v101 37 0 4).toInt ∧ (v101 37 0 4).toInt ≤ (4 : Int) := hI_v101.1 37 0 4
          (try have := sp_shl4 (b := (v101 37 0 4)) (by omega) (by omega))
          (try have := sp_shl5 (b := (v101 37 0 4)) (by omega) (by omega))
          (try have := sp_shl7 (b := (v101 37 0 4)) (by omega) (by omega))
          (try have := sp_shl (a := (1 : Int32)) (b := (v101 37 0 4)) (by omega) (by omega) (by omega) (by omega))
          (try have := sp_or64 (a := (v101 37 0 6)) (b := ((1 : Int32) <<< ((v101 37 0 4) &&& 31))) (by omega) (by omega) (by omega) (by omega))
          (try have := sp_or16 (a := (v101 37 0 6)) (b := ((1 : Int32) <<< ((v101 37 0 4) &&& 31))) (by omega) (by omega) (by omega) (by omega))
          have : ((v102 36 0 3).toInt = 0 ∧ (v102 36 0 4).toInt = 0) ∨ (0 < (v102 36 0 3).toInt ∧ 0 < (v102 36 0 4).toInt) := hI_v102.2.1
          refine ok_let (fun v103 ev103 => ?_)
          have hI_v103 : IM v103 := by
            rw [ev103]
            refine hI_v102.upo (by decide) ?_
            show (0 : Int) ≤ Int32.toInt ((v102 37 0 4) + 1) ∧ Int32.toInt ((v102 37 0 4) + 1) ≤ (4 : Int)
            have : (0 : Int) ≤ (v102 37 0 4).toInt ∧ (v102 37 0 4).toInt ≤ (4 : Int) := hI_v102.1 37 0 4
            have : (1 : Int32).toInt = 1 := (by decide)
            have := i_bd (v102 37 0 4)
            (first | have := sp_addx (v102 37 0 4) (1 : Int32) (by omega) | obtain ⟨k57, hk57⟩ := sp_add (v102 37 0 4) (1 : Int32))
            omega
          have := i_eq (show v103 30 0 8 = v102 30 0 8 by rw [ev103]; exact up3_t (by decide))
          have := i_eq (show v103 30 0 11 = v102 30 0 11 by rw [ev103]; exact up3_t (by decide))
          have := i_eq (show v103 30 0 12 = v102 30 0 12 by rw [ev103]; exact up3_t (by decide))
          have := i_eq (show v103 37 0 3 = v102 37 0 3 by rw [ev103]; exact up3_j (by decide))
          have := i_eq (show v103 37 0 4 = ((v102 37 0 4) + 1) by rw [ev103]; exact up3_s)
          have : (0 : Int) ≤ (v102 37 0 4).toInt ∧ (v102 37 0 4).toInt ≤ (4 : Int) := hI_v102.1 37 0 4
          have : (1 : Int32).toInt = 1 := (by decide)
          have := i_bd (v102 37 0 4)
          (first | have := sp_addx (v102 37 0 4) (1 : Int32) (by omega) | obtain ⟨k58, hk58⟩ := sp_add (v102 37 0 4) (1 : Int32))
          have := i_eq (show v103 37 0 6 = v102 37 0 6 by rw [ev103]; exact up3_j (by decide))
          have : ((v103 36 0 3).toInt = 0 ∧ (v103 36 0 4).toInt = 0) ∨ (0 < (v103 36 0 3).toInt ∧ 0 < (v103 36 0 4).toInt) := hI_v103.2.1
          refine ok_some ?_
          show IM v103 ∧ (Int32.toInt (v103 37 0 3) = Int32.toInt (v 37 0 3)) ∧ ((Int32.toInt (v 30 0 8) < 0 ∧ Int32.toInt (v103 37 0 4) = Int32.toInt (v 37 0 4) + 1) ∨ 0 ≤ Int32.toInt (v103 30 0 8))
          refine ⟨hI_v103, ?_⟩
          omega
    · skip
      have ic73 := i_nle c73
      have : (0 : Int) ≤ (v72 37 0 4).toInt ∧ (v72 37 0 4).toInt ≤ (4 : Int) := hI_v72.1 37 0 4
      have : (4 : Int32).toInt = 4 := (by decide)
      refine ok_let (fun x104 ex104 => ?_)
      have : (26 : Int32).toInt = 26 := (by decide)
      have : (3 : Int32).toInt = 3 := (by decide)
      have : (0 : Int) ≤ (v72 37 0 4).toInt ∧ (v72 37 0 4).toInt ≤ (4 : Int) := hI_v72.1 37 0 4
      (first | have := sp_cmulx (3 : Int32) (v72 37 0 4) 3 (by decide) (by omega) | obtain ⟨k59, hk59⟩ := sp_cmul (3 : Int32) (v72 37 0 4) 3 (by decide))
      (first | have := sp_addx (26 : Int32) ((3 : Int32) * (v72 37 0 4)) (by omega) | obtain ⟨k60, hk60⟩ := sp_add (26 : Int32) ((3 : Int32) * (v72 37 0 4)))
      have := i_eq ex104
      refine ok_kb2 (k_X8_figure v72 hI_v72 0 9 (by have : (0 : Int32).toInt = 0 := (by decide); omega) (by have : (9 : Int32).toInt = 9 := (by decide); omega)) (fun r106 v107 hr106 => ?_)
      have hr106 : IM v107 ∧ (0 : Int) ≤ Int32.toInt r106 ∧ Int32.toInt r106 ≤ (9 : Int) ∧ (Int32.toInt (v107 37 0 3) = Int32.toInt (v72 37 0 3)) ∧ (Int32.toInt (v107 37 0 4) = Int32.toInt (v72 37 0 4)) ∧ (Int32.toInt (v72 30 0 8) < 0 ∨ 0 ≤ Int32.toInt (v107 30 0 8)) ∧ (Int32.toInt r106 ≤ Int32.toInt 9) := hr106
      obtain ⟨hI_v107, hr106⟩ := hr106
      have : ((v107 36 0 3).toInt = 0 ∧ (v107 36 0 4).toInt = 0) ∨ (0 < (v107 36 0 3).toInt ∧ 0 < (v107 36 0 4).toInt) := hI_v107.2.1
      have : (0 : Int) ≤ (v72 37 0 3).toInt ∧ (v72 37 0 3).toInt ≤ (6 : Int) := hI_v72.1 37 0 3
      have : (0 : Int) ≤ (v72 37 0 4).toInt ∧ (v72 37 0 4).toInt ≤ (4 : Int) := hI_v72.1 37 0 4
      have : (-1 : Int) ≤ (v72 30 0 8).toInt ∧ (v72 30 0 8).toInt ≤ (100 : Int) := hI_v72.1 30 0 8
      have : (0 : Int32).toInt = 0 := (by decide)
      have : (9 : Int32).toInt = 9 := (by decide)
      refine ok_ite _ (fun c108 => ?_) (fun c108 => ?_)
      · skip
        have ic108 := i_eq c108
        have : (0 : Int) ≤ (v107 30 0 11).toInt ∧ (v107 30 0 11).toInt ≤ (5 : Int) := hI_v107.1 30 0 11
        have : (4 : Int32).toInt = 4 := (by decide)
        refine ok_kb2 (k_X8_takes v107 hI_v107 1 1 ) (fun r110 v111 hr110 => ?_)
        have hr110 : IM v111 ∧ (Int32.toInt (v111 37 0 3) = Int32.toInt (v107 37 0 3)) ∧ (Int32.toInt (v111 37 0 4) = Int32.toInt (v107 37 0 4)) ∧ (Int32.toInt (v107 30 0 8) < 0 ∨ 0 ≤ Int32.toInt (v111 30 0 8)) ∧ (¬ Int32.toInt 1 = 0 ∨ 0 ≤ Int32.toInt (v111 30 0 8)) ∧ (Int32.toInt r110 = 0 ∨ (Int32.toInt r110 = Int32.toInt (v107 30 0 12) ∧ ¬ Int32.toInt 1 = 0)) := hr110
        obtain ⟨hI_v111, hr110⟩ := hr110
        have : ((v111 36 0 3).toInt = 0 ∧ (v111 36 0 4).toInt = 0) ∨ (0 < (v111 36 0 3).toInt ∧ 0 < (v111 36 0 4).toInt) := hI_v111.2.1
        have : (0 : Int) ≤ (v107 37 0 3).toInt ∧ (v107 37 0 3).toInt ≤ (6 : Int) := hI_v107.1 37 0 3
        have : (0 : Int) ≤ (v107 37 0 4).toInt ∧ (v107 37 0 4).toInt ≤ (4 : Int) := hI_v107.1 37 0 4
        have : (-1 : Int) ≤ (v107 30 0 8).toInt ∧ (v107 30 0 8).toInt ≤ (100 : Int) := hI_v107.1 30 0 8
        have : (1 : Int32).toInt = 1 := (by decide)
        refine ok_bind (k_X8_isWell v111 hI_v111  ) (fun r113 hr113 => ?_)
        have hr113 : (0 : Int) ≤ Int32.toInt r113 ∧ Int32.toInt r113 ≤ (1 : Int) ∧ ((Int32.toInt r113 = 0 ∧ 0 ≤ Int32.toInt (v111 30 0 8)) ∨ (Int32.toInt r113 = 1 ∧ Int32.toInt (v111 30 0 8) < 0)) := hr113
        have : (-1 : Int) ≤ (v111 30 0 8).toInt ∧ (v111 30 0 8).toInt ≤ (100 : Int) := hI_v111.1 30 0 8
        refine ok_ite _ (fun c115 => ?_) (fun c115 => ?_)
        · skip
          have ic115 := i_eq c115
          have : (0 : Int32).toInt = 0 := (by decide)
          refine ok_some ?_
          show IM v111 ∧ (Int32.toInt (v111 37 0 3) = Int32.toInt (v 37 0 3)) ∧ ((Int32.toInt (v 30 0 8) < 0 ∧ Int32.toInt (v111 37 0 4) = Int32.toInt (v 37 0 4) + 1) ∨ 0 ≤ Int32.toInt (v111 30 0 8))
          refine ⟨hI_v111, ?_⟩
          omega
        · skip
          have ic115 := i_ne c115
          have : (0 : Int32).toInt = 0 := (by decide)
          refine ok_grd _ ?_ ?_
          · skip
            exact gr (by omega) (by omega)
          refine ok_let (fun v117 ev117 => ?_)
          have hI_v117 : IM v117 := by
            rw [ev117]
            first | exact hI_v111.um7 (by omega) (by omega) | exact hI_v111.u07
          have := i_eq (show v117 30 0 8 = v111 30 0 8 by rw [ev117]; exact up3_t (by decide))
          have := i_eq (show v117 30 0 11 = v111 30 0 11 by rw [ev117]; exact up3_t (by decide))
          have := i_eq (show v117 30 0 12 = v111 30 0 12 by rw [ev117]; exact up3_t (by decide))
          (try have := i_eq (show v117 37 0 3 = v111 37 0 3 by rw [ev117]; exact up3_j (tcne (by omega) (by omega))))
          (try have := i_eq (show v117 37 0 4 = v111 37 0 4 by rw [ev117]; exact up3_j (tcne (by omega) (by omega))))
          (try have := i_eq (show v117 37 0 6 = v111 37 0 6 by rw [ev117]; exact up3_j (tcne (by omega) (by omega))))
          have : ((v117 36 0 3).toInt = 0 ∧ (v117 36 0 4).toInt = 0) ∨ (0 < (v117 36 0 3).toInt ∧ 0 < (v117 36 0 4).toInt) := hI_v117.2.1
          refine ok_grd _ ?_ ?_
          · skip
            have : (1 : Int32).toInt = 1 := (by decide)
            have := i_bd x104
            (first | have := sp_addx x104 (1 : Int32) (by omega) | obtain ⟨k61, hk61⟩ := sp_add x104 (1 : Int32))
            exact gr (by omega) (by omega)
          refine ok_let (fun v119 ev119 => ?_)
          have : (1 : Int32).toInt = 1 := (by decide)
          have := i_bd x104
          (first | have := sp_addx x104 (1 : Int32) (by omega) | obtain ⟨k62, hk62⟩ := sp_add x104 (1 : Int32))
          have hI_v119 : IM v119 := by
            rw [ev119]
            first | exact hI_v117.um7 (by omega) (by omega) | exact hI_v117.u07
          have := i_eq (show v119 30 0 8 = v117 30 0 8 by rw [ev119]; exact up3_t (by decide))
          have := i_eq (show v119 30 0 11 = v117 30 0 11 by rw [ev119]; exact up3_t (by decide))
          have := i_eq (show v119 30 0 12 = v117 30 0 12 by rw [ev119]; exact up3_t (by decide))
          (try have := i_eq (show v119 37 0 3 = v117 37 0 3 by rw [ev119]; exact up3_j (tcne (by omega) (by omega))))
          (try have := i_eq (show v119 37 0 4 = v117 37 0 4 by rw [ev119]; exact up3_j (tcne (by omega) (by omega))))
          (try have := i_eq (show v119 37 0 6 = v117 37 0 6 by rw [ev119]; exact up3_j (tcne (by omega) (by omega))))
          have : ((v119 36 0 3).toInt = 0 ∧ (v119 36 0 4).toInt = 0) ∨ (0 < (v119 36 0 3).toInt ∧ 0 < (v119 36 0 4).toInt) := hI_v119.2.1
          refine ok_let (fun v120 ev120 => ?_)
          have hI_v120 : IM v120 := by
            rw [ev120]
            refine hI_v119.upo (by decide) ?_
            show (0 : Int) ≤ Int32.toInt ((v119 37 0 6) ||| ((1 : Int32) <<< ((v119 37 0 4) &&& 31))) ∧ Int32.toInt ((v119 37 0 6) ||| ((1 : Int32) <<< ((v119 37 0 4) &&& 31))) ≤ (15 : Int)
            have : (0 : Int) ≤ (v119 37 0 6).toInt ∧ (v119 37 0 6).toInt ≤ (15 : Int) := hI_v119.1 37 0 6
            have : (1 : Int32).toInt = 1 := (by decide)
            have : (0 : Int) ≤ (v119 37 0 4).toInt ∧ (v119 37 0 4).toInt ≤ (4 : Int) := hI_v119.1 37 0 4
            (try have := sp_shl4 (b := (v119 37 0 4)) (by omega) (by omega))
            (try have := sp_shl5 (b := (v119 37 0 4)) (by omega) (by omega))
            (try have := sp_shl7 (b := (v119 37 0 4)) (by omega) (by omega))
            (try have := sp_shl (a := (1 : Int32)) (b := (v119 37 0 4)) (by omega) (by omega) (by omega) (by omega))
            (try have := sp_or64 (a := (v119 37 0 6)) (b := ((1 : Int32) <<< ((v119 37 0 4) &&& 31))) (by omega) (by omega) (by omega) (by omega))
            (try have := sp_or16 (a := (v119 37 0 6)) (b := ((1 : Int32) <<< ((v119 37 0 4) &&& 31))) (by omega) (by omega) (by omega) (by omega))
            omega
          have := i_eq (show v120 30 0 8 = v119 30 0 8 by rw [ev120]; exact up3_t (by decide))
          have := i_eq (show v120 30 0 11 = v119 30 0 11 by rw [ev120]; exact up3_t (by decide))
          have := i_eq (show v120 30 0 12 = v119 30 0 12 by rw [ev120]; exact up3_t (by decide))
          have := i_eq (show v120 37 0 3 = v119 37 0 3 by rw [ev120]; exact up3_j (by decide))
          have := i_eq (show v120 37 0 4 = v119 37 0 4 by rw [ev120]; exact up3_j (by decide))
          have := i_eq (show v120 37 0 6 = ((v119 37 0 6) ||| ((1 : Int32) <<< ((v119 37 0 4) &&& 31))) by rw [ev120]; exact up3_s)
          have : (0 : Int) ≤ (v119 37 0 6).toInt ∧ (v119 37 0 6).toInt ≤ (15 : Int) := hI_v119.1 37 0 6
          have : (1 : Int32).toInt = 1 := (by decide)
          have : (0 : Int) ≤ (v119 37 0 4).toInt ∧ (v119 37 0 4).toInt ≤ (4 : Int) := hI_v119.1 37 0 4
          (try have := sp_shl4 (b := (v119 37 0 4)) (by omega) (by omega))
          (try have := sp_shl5 (b := (v119 37 0 4)) (by omega) (by omega))
          (try have := sp_shl7 (b := (v119 37 0 4)) (by omega) (by omega))
          (try have := sp_shl (a := (1 : Int32)) (b := (v119 37 0 4)) (by omega) (by omega) (by omega) (by omega))
          (try have := sp_or64 (a := (v119 37 0 6)) (b := ((1 : Int32) <<< ((v119 37 0 4) &&& 31))) (by omega) (by omega) (by omega) (by omega))
          (try have := sp_or16 (a := (v119 37 0 6)) (b := ((1 : Int32) <<< ((v119 37 0 4) &&& 31))) (by omega) (by omega) (by omega) (by omega))
          have : ((v120 36 0 3).toInt = 0 ∧ (v120 36 0 4).toInt = 0) ∨ (0 < (v120 36 0 3).toInt ∧ 0 < (v120 36 0 4).toInt) := hI_v120.2.1
          refine ok_let (fun v121 ev121 => ?_)
          have hI_v121 : IM v121 := by
            rw [ev121]
            refine hI_v120.upo (by decide) ?_
            show (0 : Int) ≤ Int32.toInt ((v120 37 0 4) + 1) ∧ Int32.toInt ((v120 37 0 4) + 1) ≤ (4 : Int)
            have : (0 : Int) ≤ (v120 37 0 4).toInt ∧ (v120 37 0 4).toInt ≤ (4 : Int) := hI_v120.1 37 0 4
            have : (1 : Int32).toInt = 1 := (by decide)
            have := i_bd (v120 37 0 4)
            (first | have := sp_addx (v120 37 0 4) (1 : Int32) (by omega) | obtain ⟨k63, hk63⟩ := sp_add (v120 37 0 4) (1 : Int32))
            omega
          have := i_eq (show v121 30 0 8 = v120 30 0 8 by rw [ev121]; exact up3_t (by decide))
          have := i_eq (show v121 30 0 11 = v120 30 0 11 by rw [ev121]; exact up3_t (by decide))
          have := i_eq (show v121 30 0 12 = v120 30 0 12 by rw [ev121]; exact up3_t (by decide))
          have := i_eq (show v121 37 0 3 = v120 37 0 3 by rw [ev121]; exact up3_j (by decide))
          have := i_eq (show v121 37 0 4 = ((v120 37 0 4) + 1) by rw [ev121]; exact up3_s)
          have : (0 : Int) ≤ (v120 37 0 4).toInt ∧ (v120 37 0 4).toInt ≤ (4 : Int) := hI_v120.1 37 0 4
          have : (1 : Int32).toInt = 1 := (by decide)
          have := i_bd (v120 37 0 4)
          (first | have := sp_addx (v120 37 0 4) (1 : Int32) (by omega) | obtain ⟨k64, hk64⟩ := sp_add (v120 37 0 4) (1 : Int32))
          have := i_eq (show v121 37 0 6 = v120 37 0 6 by rw [ev121]; exact up3_j (by decide))
          have : ((v121 36 0 3).toInt = 0 ∧ (v121 36 0 4).toInt = 0) ∨ (0 < (v121 36 0 3).toInt ∧ 0 < (v121 36 0 4).toInt) := hI_v121.2.1
          refine ok_some ?_
          show IM v121 ∧ (Int32.toInt (v121 37 0 3) = Int32.toInt (v 37 0 3)) ∧ ((Int32.toInt (v 30 0 8) < 0 ∧ Int32.toInt (v121 37 0 4) = Int32.toInt (v 37 0 4) + 1) ∨ 0 ≤ Int32.toInt (v121 30 0 8))
          refine ⟨hI_v121, ?_⟩
          omega
      · skip
        have ic108 := i_ne c108
        have : (0 : Int) ≤ (v107 30 0 11).toInt ∧ (v107 30 0 11).toInt ≤ (5 : Int) := hI_v107.1 30 0 11
        have : (4 : Int32).toInt = 4 := (by decide)
        refine ok_kb2 (k_X8_takes v107 hI_v107 0 1 ) (fun r123 v124 hr123 => ?_)
        have hr123 : IM v124 ∧ (Int32.toInt (v124 37 0 3) = Int32.toInt (v107 37 0 3)) ∧ (Int32.toInt (v124 37 0 4) = Int32.toInt (v107 37 0 4)) ∧ (Int32.toInt (v107 30 0 8) < 0 ∨ 0 ≤ Int32.toInt (v124 30 0 8)) ∧ (¬ Int32.toInt 0 = 0 ∨ 0 ≤ Int32.toInt (v124 30 0 8)) ∧ (Int32.toInt r123 = 0 ∨ (Int32.toInt r123 = Int32.toInt (v107 30 0 12) ∧ ¬ Int32.toInt 0 = 0)) := hr123
        obtain ⟨hI_v124, hr123⟩ := hr123
        have : ((v124 36 0 3).toInt = 0 ∧ (v124 36 0 4).toInt = 0) ∨ (0 < (v124 36 0 3).toInt ∧ 0 < (v124 36 0 4).toInt) := hI_v124.2.1
        have : (0 : Int) ≤ (v107 37 0 3).toInt ∧ (v107 37 0 3).toInt ≤ (6 : Int) := hI_v107.1 37 0 3
        have : (0 : Int) ≤ (v107 37 0 4).toInt ∧ (v107 37 0 4).toInt ≤ (4 : Int) := hI_v107.1 37 0 4
        have : (-1 : Int) ≤ (v107 30 0 8).toInt ∧ (v107 30 0 8).toInt ≤ (100 : Int) := hI_v107.1 30 0 8
        have : (0 : Int32).toInt = 0 := (by decide)
        have : (1 : Int32).toInt = 1 := (by decide)
        refine ok_bind (k_X8_isWell v124 hI_v124  ) (fun r126 hr126 => ?_)
        have hr126 : (0 : Int) ≤ Int32.toInt r126 ∧ Int32.toInt r126 ≤ (1 : Int) ∧ ((Int32.toInt r126 = 0 ∧ 0 ≤ Int32.toInt (v124 30 0 8)) ∨ (Int32.toInt r126 = 1 ∧ Int32.toInt (v124 30 0 8) < 0)) := hr126
        have : (-1 : Int) ≤ (v124 30 0 8).toInt ∧ (v124 30 0 8).toInt ≤ (100 : Int) := hI_v124.1 30 0 8
        refine ok_ite _ (fun c128 => ?_) (fun c128 => ?_)
        · skip
          have ic128 := i_eq c128
          have : (0 : Int32).toInt = 0 := (by decide)
          refine ok_some ?_
          show IM v124 ∧ (Int32.toInt (v124 37 0 3) = Int32.toInt (v 37 0 3)) ∧ ((Int32.toInt (v 30 0 8) < 0 ∧ Int32.toInt (v124 37 0 4) = Int32.toInt (v 37 0 4) + 1) ∨ 0 ≤ Int32.toInt (v124 30 0 8))
          refine ⟨hI_v124, ?_⟩
          omega
        · skip
          have ic128 := i_ne c128
          have : (0 : Int32).toInt = 0 := (by decide)
          refine ok_grd _ ?_ ?_
          · skip
            exact gr (by omega) (by omega)
          refine ok_let (fun v130 ev130 => ?_)
          have hI_v130 : IM v130 := by
            rw [ev130]
            first | exact hI_v124.um7 (by omega) (by omega) | exact hI_v124.u07
          have := i_eq (show v130 30 0 8 = v124 30 0 8 by rw [ev130]; exact up3_t (by decide))
          have := i_eq (show v130 30 0 11 = v124 30 0 11 by rw [ev130]; exact up3_t (by decide))
          have := i_eq (show v130 30 0 12 = v124 30 0 12 by rw [ev130]; exact up3_t (by decide))
          (try have := i_eq (show v130 37 0 3 = v124 37 0 3 by rw [ev130]; exact up3_j (tcne (by omega) (by omega))))
          (try have := i_eq (show v130 37 0 4 = v124 37 0 4 by rw [ev130]; exact up3_j (tcne (by omega) (by omega))))
          (try have := i_eq (show v130 37 0 6 = v124 37 0 6 by rw [ev130]; exact up3_j (tcne (by omega) (by omega))))
          have : ((v130 36 0 3).toInt = 0 ∧ (v130 36 0 4).toInt = 0) ∨ (0 < (v130 36 0 3).toInt ∧ 0 < (v130 36 0 4).toInt) := hI_v130.2.1
          refine ok_grd _ ?_ ?_
          · skip
            have : (1 : Int32).toInt = 1 := (by decide)
            have := i_bd x104
            (first | have := sp_addx x104 (1 : Int32) (by omega) | obtain ⟨k65, hk65⟩ := sp_add x104 (1 : Int32))
            exact gr (by omega) (by omega)
          refine ok_let (fun v132 ev132 => ?_)
          have : (1 : Int32).toInt = 1 := (by decide)
          have := i_bd x104
          (first | have := sp_addx x104 (1 : Int32) (by omega) | obtain ⟨k66, hk66⟩ := sp_add x104 (1 : Int32))
          have hI_v132 : IM v132 := by
            rw [ev132]
            first | exact hI_v130.um7 (by omega) (by omega) | exact hI_v130.u07
          have := i_eq (show v132 30 0 8 = v130 30 0 8 by rw [ev132]; exact up3_t (by decide))
          have := i_eq (show v132 30 0 11 = v130 30 0 11 by rw [ev132]; exact up3_t (by decide))
          have := i_eq (show v132 30 0 12 = v130 30 0 12 by rw [ev132]; exact up3_t (by decide))
          (try have := i_eq (show v132 37 0 3 = v130 37 0 3 by rw [ev132]; exact up3_j (tcne (by omega) (by omega))))
          (try have := i_eq (show v132 37 0 4 = v130 37 0 4 by rw [ev132]; exact up3_j (tcne (by omega) (by omega))))
          (try have := i_eq (show v132 37 0 6 = v130 37 0 6 by rw [ev132]; exact up3_j (tcne (by omega) (by omega))))
          have : ((v132 36 0 3).toInt = 0 ∧ (v132 36 0 4).toInt = 0) ∨ (0 < (v132 36 0 3).toInt ∧ 0 < (v132 36 0 4).toInt) := hI_v132.2.1
          refine ok_let (fun v133 ev133 => ?_)
          have hI_v133 : IM v133 := by
            rw [ev133]
            refine hI_v132.upo (by decide) ?_
            show (0 : Int) ≤ Int32.toInt ((v132 37 0 6) ||| ((1 : Int32) <<< ((v132 37 0 4) &&& 31))) ∧ Int32.toInt ((v132 37 0 6) ||| ((1 : Int32) <<< ((v132 37 0 4) &&& 31))) ≤ (15 : Int)
            have : (0 : Int) ≤ (v132 37 0 6).toInt ∧ (v132 37 0 6).toInt ≤ (15 : Int) := hI_v132.1 37 0 6
            have : (1 : Int32).toInt = 1 := (by decide)
            have : (0 : Int) ≤ (v132 37 0 4).toInt ∧ (v132 37 0 4).toInt ≤ (4 : Int) := hI_v132.1 37 0 4
            (try have := sp_shl4 (b := (v132 37 0 4)) (by omega) (by omega))
            (try have := sp_shl5 (b := (v132 37 0 4)) (by omega) (by omega))
            (try have := sp_shl7 (b := (v132 37 0 4)) (by omega) (by omega))
            (try have := sp_shl (a := (1 : Int32)) (b := (v132 37 0 4)) (by omega) (by omega) (by omega) (by omega))
            (try have := sp_or64 (a := (v132 37 0 6)) (b := ((1 : Int32) <<< ((v132 37 0 4) &&& 31))) (by omega) (by omega) (by omega) (by omega))
            (try have := sp_or16 (a := (v132 37 0 6)) (b := ((1 : Int32) <<< ((v132 37 0 4) &&& 31))) (by omega) (by omega) (by omega) (by omega))
            omega
          have := i_eq (show v133 30 0 8 = v132 30 0 8 by rw [ev133]; exact up3_t (by decide))
          have := i_eq (show v133 30 0 11 = v132 30 0 11 by rw [ev133]; exact up3_t (by decide))
          have := i_eq (show v133 30 0 12 = v132 30 0 12 by rw [ev133]; exact up3_t (by decide))
          have := i_eq (show v133 37 0 3 = v132 37 0 3 by rw [ev133]; exact up3_j (by decide))
          have := i_eq (show v133 37 0 4 = v132 37 0 4 by rw [ev133]; exact up3_j (by decide))
          have := i_eq (show v133 37 0 6 = ((v132 37 0 6) ||| ((1 : Int32) <<< ((v132 37 0 4) &&& 31))) by rw [ev133]; exact up3_s)
          have : (0 : Int) ≤ (v132 37 0 6).toInt ∧ (v132 37 0 6).toInt ≤ (15 : Int) := hI_v132.1 37 0 6
          have : (1 : Int32).toInt = 1 := (by decide)
          have : (0 : Int) ≤ (v132 37 0 4).toInt ∧ (v132 37 0 4).toInt ≤ (4 : Int) := hI_v132.1 37 0 4
          (try have := sp_shl4 (b := (v132 37 0 4)) (by omega) (by omega))
          (try have := sp_shl5 (b := (v132 37 0 4)) (by omega) (by omega))
          (try have := sp_shl7 (b := (v132 37 0 4)) (by omega) (by omega))
          (try have := sp_shl (a := (1 : Int32)) (b := (v132 37 0 4)) (by omega) (by omega) (by omega) (by omega))
          (try have := sp_or64 (a := (v132 37 0 6)) (b := ((1 : Int32) <<< ((v132 37 0 4) &&& 31))) (by omega) (by omega) (by omega) (by omega))
          (try have := sp_or16 (a := (v132 37 0 6)) (b := ((1 : Int32) <<< ((v132 37 0 4) &&& 31))) (by omega) (by omega) (by omega) (by omega))
          have : ((v133 36 0 3).toInt = 0 ∧ (v133 36 0 4).toInt = 0) ∨ (0 < (v133 36 0 3).toInt ∧ 0 < (v133 36 0 4).toInt) := hI_v133.2.1
          refine ok_let (fun v134 ev134 => ?_)
          have hI_v134 : IM v134 := by
            rw [ev134]
            refine hI_v133.upo (by decide) ?_
            show (0 : Int) ≤ Int32.toInt ((v133 37 0 4) + 1) ∧ Int32.toInt ((v133 37 0 4) + 1) ≤ (4 : Int)
            have : (0 : Int) ≤ (v133 37 0 4).toInt ∧ (v133 37 0 4).toInt ≤ (4 : Int) := hI_v133.1 37 0 4
            have : (1 : Int32).toInt = 1 := (by decide)
            have := i_bd (v133 37 0 4)
            (first | have := sp_addx (v133 37 0 4) (1 : Int32) (by omega) | obtain ⟨k67, hk67⟩ := sp_add (v133 37 0 4) (1 : Int32))
            omega
          have := i_eq (show v134 30 0 8 = v133 30 0 8 by rw [ev134]; exact up3_t (by decide))
          have := i_eq (show v134 30 0 11 = v133 30 0 11 by rw [ev134]; exact up3_t (by decide))
          have := i_eq (show v134 30 0 12 = v133 30 0 12 by rw [ev134]; exact up3_t (by decide))
          have := i_eq (show v134 37 0 3 = v133 37 0 3 by rw [ev134]; exact up3_j (by decide))
          have := i_eq (show v134 37 0 4 = ((v133 37 0 4) + 1) by rw [ev134]; exact up3_s)
          have : (0 : Int) ≤ (v133 37 0 4).toInt ∧ (v133 37 0 4).toInt ≤ (4 : Int) := hI_v133.1 37 0 4
          have : (1 : Int32).toInt = 1 := (by decide)
          have := i_bd (v133 37 0 4)
          (first | have := sp_addx (v133 37 0 4) (1 : Int32) (by omega) | obtain ⟨k68, hk68⟩ := sp_add (v133 37 0 4) (1 : Int32))
          have := i_eq (show v134 37 0 6 = v133 37 0 6 by rw [ev134]; exact up3_j (by decide))
          have : ((v134 36 0 3).toInt = 0 ∧ (v134 36 0 4).toInt = 0) ∨ (0 < (v134 36 0 3).toInt ∧ 0 < (v134 36 0 4).toInt) := hI_v134.2.1
          refine ok_some ?_
          show IM v134 ∧ (Int32.toInt (v134 37 0 3) = Int32.toInt (v 37 0 3)) ∧ ((Int32.toInt (v 30 0 8) < 0 ∧ Int32.toInt (v134 37 0 4) = Int32.toInt (v 37 0 4) + 1) ∨ 0 ≤ Int32.toInt (v134 30 0 8))
          refine ⟨hI_v134, ?_⟩
          omega
set_option maxHeartbeats 4000000 in
theorem k_X8_must (v : Mm) (hI_v : IM v) (a1 : Int32) : ok (g_X8_must v a1) (fun z => IM z ∧ (Int32.toInt (z 37 0 3) = Int32.toInt (v 37 0 3)) ∧ (Int32.toInt (z 37 0 4) = Int32.toInt (v 37 0 4)) ∧ (Int32.toInt (v 30 0 8) < 0 ∨ 0 ≤ Int32.toInt (z 30 0 8)) ∧ (¬ Int32.toInt a1 = 0 ∨ 0 ≤ Int32.toInt (z 30 0 8)) ∧ (Int32.toInt a1 = 0 ∨ (Int32.toInt (z 30 0 11) = Int32.toInt (v 30 0 11) ∧ Int32.toInt (z 30 0 12) = Int32.toInt (v 30 0 12)))) := by
  have : ((v 36 0 3).toInt = 0 ∧ (v 36 0 4).toInt = 0) ∨ (0 < (v 36 0 3).toInt ∧ 0 < (v 36 0 4).toInt) := hI_v.2.1
  unfold g_X8_must
  refine ok_bind (k_X8_isWell v hI_v  ) (fun r2 hr2 => ?_)
  have hr2 : (0 : Int) ≤ Int32.toInt r2 ∧ Int32.toInt r2 ≤ (1 : Int) ∧ ((Int32.toInt r2 = 0 ∧ 0 ≤ Int32.toInt (v 30 0 8)) ∨ (Int32.toInt r2 = 1 ∧ Int32.toInt (v 30 0 8) < 0)) := hr2
  have : (-1 : Int) ≤ (v 30 0 8).toInt ∧ (v 30 0 8).toInt ≤ (100 : Int) := hI_v.1 30 0 8
  refine ok_ite _ (fun c4 => ?_) (fun c4 => ?_)
  · skip
    have ic4 := i_eq c4
    have : (0 : Int32).toInt = 0 := (by decide)
    refine ok_some ?_
    show IM v ∧ (Int32.toInt (v 37 0 3) = Int32.toInt (v 37 0 3)) ∧ (Int32.toInt (v 37 0 4) = Int32.toInt (v 37 0 4)) ∧ (Int32.toInt (v 30 0 8) < 0 ∨ 0 ≤ Int32.toInt (v 30 0 8)) ∧ (¬ Int32.toInt a1 = 0 ∨ 0 ≤ Int32.toInt (v 30 0 8)) ∧ (Int32.toInt a1 = 0 ∨ (Int32.toInt (v 30 0 11) = Int32.toInt (v 30 0 11) ∧ Int32.toInt (v 30 0 12) = Int32.toInt (v 30 0 12)))
    refine ⟨hI_v, ?_⟩
    omega
  · skip
    have ic4 := i_ne c4
    have : (0 : Int32).toInt = 0 := (by decide)
    refine ok_ite _ (fun c5 => ?_) (fun c5 => ?_)
    · skip
      have ic5 := i_eq c5
      have : (0 : Int32).toInt = 0 := (by decide)
      refine ok_kb2 (k_X8_takes v hI_v 0 1 ) (fun r7 v8 hr7 => ?_)
      have hr7 : IM v8 ∧ (Int32.toInt (v8 37 0 3) = Int32.toInt (v 37 0 3)) ∧ (Int32.toInt (v8 37 0 4) = Int32.toInt (v 37 0 4)) ∧ (Int32.toInt (v 30 0 8) < 0 ∨ 0 ≤ Int32.toInt (v8 30 0 8)) ∧ (¬ Int32.toInt 0 = 0 ∨ 0 ≤ Int32.toInt (v8 30 0 8)) ∧ (Int32.toInt r7 = 0 ∨ (Int32.toInt r7 = Int32.toInt (v 30 0 12) ∧ ¬ Int32.toInt 0 = 0)) := hr7
      obtain ⟨hI_v8, hr7⟩ := hr7
      have : ((v8 36 0 3).toInt = 0 ∧ (v8 36 0 4).toInt = 0) ∨ (0 < (v8 36 0 3).toInt ∧ 0 < (v8 36 0 4).toInt) := hI_v8.2.1
      have : (0 : Int) ≤ (v 37 0 3).toInt ∧ (v 37 0 3).toInt ≤ (6 : Int) := hI_v.1 37 0 3
      have : (0 : Int) ≤ (v 37 0 4).toInt ∧ (v 37 0 4).toInt ≤ (4 : Int) := hI_v.1 37 0 4
      have : (-1 : Int) ≤ (v 30 0 8).toInt ∧ (v 30 0 8).toInt ≤ (100 : Int) := hI_v.1 30 0 8
      have : (0 : Int32).toInt = 0 := (by decide)
      have : (1 : Int32).toInt = 1 := (by decide)
      refine ok_some ?_
      show IM v8 ∧ (Int32.toInt (v8 37 0 3) = Int32.toInt (v 37 0 3)) ∧ (Int32.toInt (v8 37 0 4) = Int32.toInt (v 37 0 4)) ∧ (Int32.toInt (v 30 0 8) < 0 ∨ 0 ≤ Int32.toInt (v8 30 0 8)) ∧ (¬ Int32.toInt a1 = 0 ∨ 0 ≤ Int32.toInt (v8 30 0 8)) ∧ (Int32.toInt a1 = 0 ∨ (Int32.toInt (v8 30 0 11) = Int32.toInt (v 30 0 11) ∧ Int32.toInt (v8 30 0 12) = Int32.toInt (v 30 0 12)))
      refine ⟨hI_v8, ?_⟩
      omega
    · skip
      have ic5 := i_ne c5
      have : (0 : Int32).toInt = 0 := (by decide)
      refine ok_some ?_
      show IM v ∧ (Int32.toInt (v 37 0 3) = Int32.toInt (v 37 0 3)) ∧ (Int32.toInt (v 37 0 4) = Int32.toInt (v 37 0 4)) ∧ (Int32.toInt (v 30 0 8) < 0 ∨ 0 ≤ Int32.toInt (v 30 0 8)) ∧ (¬ Int32.toInt a1 = 0 ∨ 0 ≤ Int32.toInt (v 30 0 8)) ∧ (Int32.toInt a1 = 0 ∨ (Int32.toInt (v 30 0 11) = Int32.toInt (v 30 0 11) ∧ Int32.toInt (v 30 0 12) = Int32.toInt (v 30 0 12)))
      refine ⟨hI_v, ?_⟩
      omega
set_option maxHeartbeats 4000000 in
theorem k_X8_gate (v : Mm) (hI_v : IM v)  : ok (g_X8_gate v ) (fun z => IM z.2) := by
  have : ((v 36 0 3).toInt = 0 ∧ (v 36 0 4).toInt = 0) ∨ (0 < (v 36 0 3).toInt ∧ 0 < (v 36 0 4).toInt) := hI_v.2.1
  have loop205 : ∀ (n205 : Nat) (w205 : Mm) (x1_205 : Int32), (IM w205) → (0 ≤ Int32.toInt (w205 30 0 8) ∨ 0 < Int32.toInt (w205 37 0 3)) → (0 ≤ Int32.toInt (w205 30 0 8) ∨ 0 < Int32.toInt (w205 37 0 4) ∨ (Int32.toInt (w205 30 0 11) = 1 ∧ (Int32.toInt (w205 30 0 12) = 107 ∨ Int32.toInt (w205 30 0 12) = 115 ∨ Int32.toInt (w205 30 0 12) = 101 ∨ Int32.toInt (w205 30 0 12) = 100 ∨ Int32.toInt (w205 30 0 12) = 103))) → (5 - Int32.toInt (w205 37 0 4) < (n205 : Int) ∨ (0 ≤ Int32.toInt (w205 30 0 8) ∧ 0 < (n205 : Int))) → ok (g_X8_gate_L205   n205 w205 x1_205) (fun z => IM z.2) := by
    intro n205
    induction n205 with
    | zero =>
      intro w205 x1_205 hI_w205 hv0_205 hv1_205 hm205
      exfalso
      have : (-1 : Int) ≤ (w205 30 0 8).toInt ∧ (w205 30 0 8).toInt ≤ (100 : Int) := hI_w205.1 30 0 8
      have : (0 : Int) ≤ (w205 37 0 3).toInt ∧ (w205 37 0 3).toInt ≤ (6 : Int) := hI_w205.1 37 0 3
      have : (0 : Int) ≤ (w205 37 0 4).toInt ∧ (w205 37 0 4).toInt ≤ (4 : Int) := hI_w205.1 37 0 4
      have : (0 : Int) ≤ (w205 30 0 11).toInt ∧ (w205 30 0 11).toInt ≤ (5 : Int) := hI_w205.1 30 0 11
      omega
    | succ n205 ih205 =>
      intro w205 x1_205 hI_w205 hv0_205 hv1_205 hm205
      show ok (b_X8_gate_L205  (g_X8_gate_L205   n205)  w205 x1_205) _
      unfold b_X8_gate_L205
      try rw [tc_0]
      try rw [tc_1]
      try rw [tc_2]
      try rw [tc_3]
      have : ((w205 36 0 3).toInt = 0 ∧ (w205 36 0 4).toInt = 0) ∨ (0 < (w205 36 0 3).toInt ∧ 0 < (w205 36 0 4).toInt) := hI_w205.2.1
      have : (-1 : Int) ≤ (w205 30 0 8).toInt ∧ (w205 30 0 8).toInt ≤ (100 : Int) := hI_w205.1 30 0 8
      have : (0 : Int) ≤ (w205 37 0 3).toInt ∧ (w205 37 0 3).toInt ≤ (6 : Int) := hI_w205.1 37 0 3
      have : (0 : Int) ≤ (w205 37 0 4).toInt ∧ (w205 37 0 4).toInt ≤ (4 : Int) := hI_w205.1 37 0 4
      have : (0 : Int) ≤ (w205 30 0 11).toInt ∧ (w205 30 0 11).toInt ≤ (5 : Int) := hI_w205.1 30 0 11
      refine ok_bind (k_X8_isWell w205 hI_w205  ) (fun r2 hr2 => ?_)
      have hr2 : (0 : Int) ≤ Int32.toInt r2 ∧ Int32.toInt r2 ≤ (1 : Int) ∧ ((Int32.toInt r2 = 0 ∧ 0 ≤ Int32.toInt (w205 30 0 8)) ∨ (Int32.toInt r2 = 1 ∧ Int32.toInt (w205 30 0 8) < 0)) := hr2
      have : (-1 : Int) ≤ (w205 30 0 8).toInt ∧ (w205 30 0 8).toInt ≤ (100 : Int) := hI_w205.1 30 0 8
      refine ok_ite _ (fun c4 => ?_) (fun c4 => ?_)
      · skip
        have ic4 := i_eq c4
        have : (0 : Int32).toInt = 0 := (by decide)
        refine ok_ite _ (fun c5 => ?_) (fun c5 => ?_)
        · skip
          have ic5 := i_eq c5
          have : (0 : Int) ≤ (w205 30 0 11).toInt ∧ (w205 30 0 11).toInt ≤ (5 : Int) := hI_w205.1 30 0 11
          have : (0 : Int32).toInt = 0 := (by decide)
          refine ok_bind (k_X8_must w205 hI_w205 1 ) (fun v8 hr7 => ?_)
          have hr7 : IM v8 ∧ (Int32.toInt (v8 37 0 3) = Int32.toInt (w205 37 0 3)) ∧ (Int32.toInt (v8 37 0 4) = Int32.toInt (w205 37 0 4)) ∧ (Int32.toInt (w205 30 0 8) < 0 ∨ 0 ≤ Int32.toInt (v8 30 0 8)) ∧ (¬ Int32.toInt 1 = 0 ∨ 0 ≤ Int32.toInt (v8 30 0 8)) ∧ (Int32.toInt 1 = 0 ∨ (Int32.toInt (v8 30 0 11) = Int32.toInt (w205 30 0 11) ∧ Int32.toInt (v8 30 0 12) = Int32.toInt (w205 30 0 12))) := hr7
          obtain ⟨hI_v8, hr7⟩ := hr7
          have : ((v8 36 0 3).toInt = 0 ∧ (v8 36 0 4).toInt = 0) ∨ (0 < (v8 36 0 3).toInt ∧ 0 < (v8 36 0 4).toInt) := hI_v8.2.1
          have : (0 : Int) ≤ (w205 37 0 3).toInt ∧ (w205 37 0 3).toInt ≤ (6 : Int) := hI_w205.1 37 0 3
          have : (0 : Int) ≤ (w205 37 0 4).toInt ∧ (w205 37 0 4).toInt ≤ (4 : Int) := hI_w205.1 37 0 4
          have : (-1 : Int) ≤ (w205 30 0 8).toInt ∧ (w205 30 0 8).toInt ≤ (100 : Int) := hI_w205.1 30 0 8
          have : (0 : Int) ≤ (w205 30 0 11).toInt ∧ (w205 30 0 11).toInt ≤ (5 : Int) := hI_w205.1 30 0 11
          have : (1 : Int32).toInt = 1 := (by decide)
          refine ok_let (fun v9 ev9 => ?_)
          have hI_v9 : IM v9 := by
            rw [ev9]
            refine hI_v8.upo (by decide) ?_
            show (0 : Int) ≤ Int32.toInt (0 : Int32) ∧ Int32.toInt (0 : Int32) ≤ (100 : Int)
            have : (0 : Int32).toInt = 0 := (by decide)
            omega
          have := i_eq (show v9 30 0 6 = 0 by rw [ev9]; exact up3_s)
          have : (0 : Int32).toInt = 0 := (by decide)
          have := i_eq (show v9 30 0 8 = v8 30 0 8 by rw [ev9]; exact up3_j (by decide))
          have := i_eq (show v9 30 0 9 = v8 30 0 9 by rw [ev9]; exact up3_j (by decide))
          have := i_eq (show v9 30 0 11 = v8 30 0 11 by rw [ev9]; exact up3_j (by decide))
          have := i_eq (show v9 30 0 12 = v8 30 0 12 by rw [ev9]; exact up3_j (by decide))
          have := i_eq (show v9 30 0 17 = v8 30 0 17 by rw [ev9]; exact up3_j (by decide))
          have := i_eq (show v9 36 0 3 = v8 36 0 3 by rw [ev9]; exact up3_t (by decide))
          have := i_eq (show v9 37 0 0 = v8 37 0 0 by rw [ev9]; exact up3_t (by decide))
          have := i_eq (show v9 37 0 1 = v8 37 0 1 by rw [ev9]; exact up3_t (by decide))
          have := i_eq (show v9 37 0 2 = v8 37 0 2 by rw [ev9]; exact up3_t (by decide))
          have := i_eq (show v9 37 0 3 = v8 37 0 3 by rw [ev9]; exact up3_t (by decide))
          have := i_eq (show v9 37 0 4 = v8 37 0 4 by rw [ev9]; exact up3_t (by decide))
          have : ((v9 36 0 3).toInt = 0 ∧ (v9 36 0 4).toInt = 0) ∨ (0 < (v9 36 0 3).toInt ∧ 0 < (v9 36 0 4).toInt) := hI_v9.2.1
          refine ok_bind (k_X8_isWell v9 hI_v9  ) (fun r11 hr11 => ?_)
          have hr11 : (0 : Int) ≤ Int32.toInt r11 ∧ Int32.toInt r11 ≤ (1 : Int) ∧ ((Int32.toInt r11 = 0 ∧ 0 ≤ Int32.toInt (v9 30 0 8)) ∨ (Int32.toInt r11 = 1 ∧ Int32.toInt (v9 30 0 8) < 0)) := hr11
          have : (-1 : Int) ≤ (v9 30 0 8).toInt ∧ (v9 30 0 8).toInt ≤ (100 : Int) := hI_v9.1 30 0 8
          refine ok_ite _ (fun c13 => ?_) (fun c13 => ?_)
          · skip
            have ic13 := i_eq c13
            have : (0 : Int32).toInt = 0 := (by decide)
            refine ok_some ?_
            show IM v9
            have : (-1000100 : Int32).toInt = -1000100 := (by decide)
            have : (-1 : Int) ≤ (v9 30 0 8).toInt ∧ (v9 30 0 8).toInt ≤ (100 : Int) := hI_v9.1 30 0 8
            have := i_bd (v9 30 0 8)
            (first | have := sp_subx (-1000100 : Int32) (v9 30 0 8) (by omega) | obtain ⟨k1, hk1⟩ := sp_sub (-1000100 : Int32) (v9 30 0 8))
            exact hI_v9
          · skip
            have ic13 := i_ne c13
            have : (0 : Int32).toInt = 0 := (by decide)
            refine ok_bind (k_X8_copies_37_36 v9 hI_v9 0 0 (by have : (0 : Int32).toInt = 0 := (by decide); omega) (by have : (0 : Int32).toInt = 0 := (by decide); omega) (by omega)) (fun v16 hr15 => ?_)
            have hr15 : IM v16 := hr15
            have hI_v16 := hr15
            have : ((v16 36 0 3).toInt = 0 ∧ (v16 36 0 4).toInt = 0) ∨ (0 < (v16 36 0 3).toInt ∧ 0 < (v16 36 0 4).toInt) := hI_v16.2.1
            refine ok_let (fun v17 ev17 => ?_)
            have hI_v17 : IM v17 := by
              rw [ev17]
              refine hI_v16.upo (by decide) ?_
              show (0 : Int) ≤ Int32.toInt (0 : Int32) ∧ Int32.toInt (0 : Int32) ≤ (24 : Int)
              have : (0 : Int32).toInt = 0 := (by decide)
              omega
            have := i_eq (show v17 30 0 6 = v16 30 0 6 by rw [ev17]; exact up3_j (by decide))
            have := i_eq (show v17 30 0 8 = v16 30 0 8 by rw [ev17]; exact up3_j (by decide))
            have := i_eq (show v17 30 0 9 = v16 30 0 9 by rw [ev17]; exact up3_j (by decide))
            have := i_eq (show v17 30 0 11 = v16 30 0 11 by rw [ev17]; exact up3_j (by decide))
            have := i_eq (show v17 30 0 12 = v16 30 0 12 by rw [ev17]; exact up3_j (by decide))
            have := i_eq (show v17 30 0 17 = 0 by rw [ev17]; exact up3_s)
            have : (0 : Int32).toInt = 0 := (by decide)
            have := i_eq (show v17 36 0 3 = v16 36 0 3 by rw [ev17]; exact up3_t (by decide))
            have := i_eq (show v17 37 0 0 = v16 37 0 0 by rw [ev17]; exact up3_t (by decide))
            have := i_eq (show v17 37 0 1 = v16 37 0 1 by rw [ev17]; exact up3_t (by decide))
            have := i_eq (show v17 37 0 2 = v16 37 0 2 by rw [ev17]; exact up3_t (by decide))
            have := i_eq (show v17 37 0 3 = v16 37 0 3 by rw [ev17]; exact up3_t (by decide))
            have := i_eq (show v17 37 0 4 = v16 37 0 4 by rw [ev17]; exact up3_t (by decide))
            have : ((v17 36 0 3).toInt = 0 ∧ (v17 36 0 4).toInt = 0) ∨ (0 < (v17 36 0 3).toInt ∧ 0 < (v17 36 0 4).toInt) := hI_v17.2.1
            refine ok_some ?_
            show IM v17
            have : (0 : Int) ≤ (v17 36 0 3).toInt ∧ (v17 36 0 3).toInt ≤ (6 : Int) := hI_v17.1 36 0 3
            exact hI_v17
        · skip
          have ic5 := i_ne c5
          have : (0 : Int) ≤ (w205 30 0 11).toInt ∧ (w205 30 0 11).toInt ≤ (5 : Int) := hI_w205.1 30 0 11
          have : (0 : Int32).toInt = 0 := (by decide)
          refine ok_bind (k_X8_must w205 hI_w205 0 ) (fun v20 hr19 => ?_)
          have hr19 : IM v20 ∧ (Int32.toInt (v20 37 0 3) = Int32.toInt (w205 37 0 3)) ∧ (Int32.toInt (v20 37 0 4) = Int32.toInt (w205 37 0 4)) ∧ (Int32.toInt (w205 30 0 8) < 0 ∨ 0 ≤ Int32.toInt (v20 30 0 8)) ∧ (¬ Int32.toInt 0 = 0 ∨ 0 ≤ Int32.toInt (v20 30 0 8)) ∧ (Int32.toInt 0 = 0 ∨ (Int32.toInt (v20 30 0 11) = Int32.toInt (w205 30 0 11) ∧ Int32.toInt (v20 30 0 12) = Int32.toInt (w205 30 0 12))) := hr19
          obtain ⟨hI_v20, hr19⟩ := hr19
          have : ((v20 36 0 3).toInt = 0 ∧ (v20 36 0 4).toInt = 0) ∨ (0 < (v20 36 0 3).toInt ∧ 0 < (v20 36 0 4).toInt) := hI_v20.2.1
          have : (0 : Int) ≤ (w205 37 0 3).toInt ∧ (w205 37 0 3).toInt ≤ (6 : Int) := hI_w205.1 37 0 3
          have : (0 : Int) ≤ (w205 37 0 4).toInt ∧ (w205 37 0 4).toInt ≤ (4 : Int) := hI_w205.1 37 0 4
          have : (-1 : Int) ≤ (w205 30 0 8).toInt ∧ (w205 30 0 8).toInt ≤ (100 : Int) := hI_w205.1 30 0 8
          have : (0 : Int) ≤ (w205 30 0 11).toInt ∧ (w205 30 0 11).toInt ≤ (5 : Int) := hI_w205.1 30 0 11
          have : (0 : Int32).toInt = 0 := (by decide)
          refine ok_let (fun v21 ev21 => ?_)
          have hI_v21 : IM v21 := by
            rw [ev21]
            refine hI_v20.upo (by decide) ?_
            show (0 : Int) ≤ Int32.toInt (0 : Int32) ∧ Int32.toInt (0 : Int32) ≤ (100 : Int)
            have : (0 : Int32).toInt = 0 := (by decide)
            omega
          have := i_eq (show v21 30 0 6 = 0 by rw [ev21]; exact up3_s)
          have : (0 : Int32).toInt = 0 := (by decide)
          have := i_eq (show v21 30 0 8 = v20 30 0 8 by rw [ev21]; exact up3_j (by decide))
          have := i_eq (show v21 30 0 9 = v20 30 0 9 by rw [ev21]; exact up3_j (by decide))
          have := i_eq (show v21 30 0 11 = v20 30 0 11 by rw [ev21]; exact up3_j (by decide))
          have := i_eq (show v21 30 0 12 = v20 30 0 12 by rw [ev21]; exact up3_j (by decide))
          have := i_eq (show v21 30 0 17 = v20 30 0 17 by rw [ev21]; exact up3_j (by decide))
          have := i_eq (show v21 36 0 3 = v20 36 0 3 by rw [ev21]; exact up3_t (by decide))
          have := i_eq (show v21 37 0 0 = v20 37 0 0 by rw [ev21]; exact up3_t (by decide))
          have := i_eq (show v21 37 0 1 = v20 37 0 1 by rw [ev21]; exact up3_t (by decide))
          have := i_eq (show v21 37 0 2 = v20 37 0 2 by rw [ev21]; exact up3_t (by decide))
          have := i_eq (show v21 37 0 3 = v20 37 0 3 by rw [ev21]; exact up3_t (by decide))
          have := i_eq (show v21 37 0 4 = v20 37 0 4 by rw [ev21]; exact up3_t (by decide))
          have : ((v21 36 0 3).toInt = 0 ∧ (v21 36 0 4).toInt = 0) ∨ (0 < (v21 36 0 3).toInt ∧ 0 < (v21 36 0 4).toInt) := hI_v21.2.1
          refine ok_bind (k_X8_isWell v21 hI_v21  ) (fun r23 hr23 => ?_)
          have hr23 : (0 : Int) ≤ Int32.toInt r23 ∧ Int32.toInt r23 ≤ (1 : Int) ∧ ((Int32.toInt r23 = 0 ∧ 0 ≤ Int32.toInt (v21 30 0 8)) ∨ (Int32.toInt r23 = 1 ∧ Int32.toInt (v21 30 0 8) < 0)) := hr23
          have : (-1 : Int) ≤ (v21 30 0 8).toInt ∧ (v21 30 0 8).toInt ≤ (100 : Int) := hI_v21.1 30 0 8
          refine ok_ite _ (fun c25 => ?_) (fun c25 => ?_)
          · skip
            have ic25 := i_eq c25
            have : (0 : Int32).toInt = 0 := (by decide)
            refine ok_some ?_
            show IM v21
            have : (-1000100 : Int32).toInt = -1000100 := (by decide)
            have : (-1 : Int) ≤ (v21 30 0 8).toInt ∧ (v21 30 0 8).toInt ≤ (100 : Int) := hI_v21.1 30 0 8
            have := i_bd (v21 30 0 8)
            (first | have := sp_subx (-1000100 : Int32) (v21 30 0 8) (by omega) | obtain ⟨k2, hk2⟩ := sp_sub (-1000100 : Int32) (v21 30 0 8))
            exact hI_v21
          · skip
            have ic25 := i_ne c25
            have : (0 : Int32).toInt = 0 := (by decide)
            refine ok_bind (k_X8_copies_37_36 v21 hI_v21 0 0 (by have : (0 : Int32).toInt = 0 := (by decide); omega) (by have : (0 : Int32).toInt = 0 := (by decide); omega) (by omega)) (fun v28 hr27 => ?_)
            have hr27 : IM v28 := hr27
            have hI_v28 := hr27
            have : ((v28 36 0 3).toInt = 0 ∧ (v28 36 0 4).toInt = 0) ∨ (0 < (v28 36 0 3).toInt ∧ 0 < (v28 36 0 4).toInt) := hI_v28.2.1
            refine ok_let (fun v29 ev29 => ?_)
            have hI_v29 : IM v29 := by
              rw [ev29]
              refine hI_v28.upo (by decide) ?_
              show (0 : Int) ≤ Int32.toInt (0 : Int32) ∧ Int32.toInt (0 : Int32) ≤ (24 : Int)
              have : (0 : Int32).toInt = 0 := (by decide)
              omega
            have := i_eq (show v29 30 0 6 = v28 30 0 6 by rw [ev29]; exact up3_j (by decide))
            have := i_eq (show v29 30 0 8 = v28 30 0 8 by rw [ev29]; exact up3_j (by decide))
            have := i_eq (show v29 30 0 9 = v28 30 0 9 by rw [ev29]; exact up3_j (by decide))
            have := i_eq (show v29 30 0 11 = v28 30 0 11 by rw [ev29]; exact up3_j (by decide))
            have := i_eq (show v29 30 0 12 = v28 30 0 12 by rw [ev29]; exact up3_j (by decide))
            have := i_eq (show v29 30 0 17 = 0 by rw [ev29]; exact up3_s)
            have : (0 : Int32).toInt = 0 := (by decide)
            have := i_eq (show v29 36 0 3 = v28 36 0 3 by rw [ev29]; exact up3_t (by decide))
            have := i_eq (show v29 37 0 0 = v28 37 0 0 by rw [ev29]; exact up3_t (by decide))
            have := i_eq (show v29 37 0 1 = v28 37 0 1 by rw [ev29]; exact up3_t (by decide))
            have := i_eq (show v29 37 0 2 = v28 37 0 2 by rw [ev29]; exact up3_t (by decide))
            have := i_eq (show v29 37 0 3 = v28 37 0 3 by rw [ev29]; exact up3_t (by decide))
            have := i_eq (show v29 37 0 4 = v28 37 0 4 by rw [ev29]; exact up3_t (by decide))
            have : ((v29 36 0 3).toInt = 0 ∧ (v29 36 0 4).toInt = 0) ∨ (0 < (v29 36 0 3).toInt ∧ 0 < (v29 36 0 4).toInt) := hI_v29.2.1
            refine ok_some ?_
            show IM v29
            have : (0 : Int) ≤ (v29 36 0 3).toInt ∧ (v29 36 0 3).toInt ≤ (6 : Int) := hI_v29.1 36 0 3
            exact hI_v29
      · skip
        have ic4 := i_ne c4
        have : (0 : Int32).toInt = 0 := (by decide)
        refine ok_ite _ (fun c30 => ?_) (fun c30 => ?_)
        · skip
          have ic30 := i_eq c30
          have : (0 : Int) ≤ (w205 30 0 11).toInt ∧ (w205 30 0 11).toInt ≤ (5 : Int) := hI_w205.1 30 0 11
          have : (1 : Int32).toInt = 1 := (by decide)
          refine ok_bind (k_X8_kindOf w205 hI_w205 (w205 30 0 12) ) (fun r32 hr32 => ?_)
          have hr32 : ((Int32.toInt r32 = 0 ∧ ¬ (Int32.toInt (w205 30 0 12) = 107 ∨ Int32.toInt (w205 30 0 12) = 115 ∨ Int32.toInt (w205 30 0 12) = 101 ∨ Int32.toInt (w205 30 0 12) = 100 ∨ Int32.toInt (w205 30 0 12) = 103)) ∨ (1 ≤ Int32.toInt r32 ∧ (Int32.toInt (w205 30 0 12) = 107 ∨ Int32.toInt (w205 30 0 12) = 115 ∨ Int32.toInt (w205 30 0 12) = 101 ∨ Int32.toInt (w205 30 0 12) = 100 ∨ Int32.toInt (w205 30 0 12) = 103))) := hr32
          refine ok_ite _ (fun c34 => ?_) (fun c34 => ?_)
          · skip
            have ic34 := i_le c34
            have : (0 : Int32).toInt = 0 := (by decide)
            refine ok_ite _ (fun c35 => ?_) (fun c35 => ?_)
            · skip
              have ic35 := i_eq c35
              have : (0 : Int) ≤ (w205 30 0 11).toInt ∧ (w205 30 0 11).toInt ≤ (5 : Int) := hI_w205.1 30 0 11
              have : (0 : Int32).toInt = 0 := (by decide)
              refine ok_bind (k_X8_must w205 hI_w205 1 ) (fun v38 hr37 => ?_)
              have hr37 : IM v38 ∧ (Int32.toInt (v38 37 0 3) = Int32.toInt (w205 37 0 3)) ∧ (Int32.toInt (v38 37 0 4) = Int32.toInt (w205 37 0 4)) ∧ (Int32.toInt (w205 30 0 8) < 0 ∨ 0 ≤ Int32.toInt (v38 30 0 8)) ∧ (¬ Int32.toInt 1 = 0 ∨ 0 ≤ Int32.toInt (v38 30 0 8)) ∧ (Int32.toInt 1 = 0 ∨ (Int32.toInt (v38 30 0 11) = Int32.toInt (w205 30 0 11) ∧ Int32.toInt (v38 30 0 12) = Int32.toInt (w205 30 0 12))) := hr37
              obtain ⟨hI_v38, hr37⟩ := hr37
              have : ((v38 36 0 3).toInt = 0 ∧ (v38 36 0 4).toInt = 0) ∨ (0 < (v38 36 0 3).toInt ∧ 0 < (v38 36 0 4).toInt) := hI_v38.2.1
              have : (0 : Int) ≤ (w205 37 0 3).toInt ∧ (w205 37 0 3).toInt ≤ (6 : Int) := hI_w205.1 37 0 3
              have : (0 : Int) ≤ (w205 37 0 4).toInt ∧ (w205 37 0 4).toInt ≤ (4 : Int) := hI_w205.1 37 0 4
              have : (-1 : Int) ≤ (w205 30 0 8).toInt ∧ (w205 30 0 8).toInt ≤ (100 : Int) := hI_w205.1 30 0 8
              have : (0 : Int) ≤ (w205 30 0 11).toInt ∧ (w205 30 0 11).toInt ≤ (5 : Int) := hI_w205.1 30 0 11
              have : (1 : Int32).toInt = 1 := (by decide)
              refine ok_let (fun v39 ev39 => ?_)
              have hI_v39 : IM v39 := by
                rw [ev39]
                refine hI_v38.upo (by decide) ?_
                show (0 : Int) ≤ Int32.toInt (0 : Int32) ∧ Int32.toInt (0 : Int32) ≤ (100 : Int)
                have : (0 : Int32).toInt = 0 := (by decide)
                omega
              have := i_eq (show v39 30 0 6 = 0 by rw [ev39]; exact up3_s)
              have : (0 : Int32).toInt = 0 := (by decide)
              have := i_eq (show v39 30 0 8 = v38 30 0 8 by rw [ev39]; exact up3_j (by decide))
              have := i_eq (show v39 30 0 9 = v38 30 0 9 by rw [ev39]; exact up3_j (by decide))
              have := i_eq (show v39 30 0 11 = v38 30 0 11 by rw [ev39]; exact up3_j (by decide))
              have := i_eq (show v39 30 0 12 = v38 30 0 12 by rw [ev39]; exact up3_j (by decide))
              have := i_eq (show v39 30 0 17 = v38 30 0 17 by rw [ev39]; exact up3_j (by decide))
              have := i_eq (show v39 36 0 3 = v38 36 0 3 by rw [ev39]; exact up3_t (by decide))
              have := i_eq (show v39 37 0 0 = v38 37 0 0 by rw [ev39]; exact up3_t (by decide))
              have := i_eq (show v39 37 0 1 = v38 37 0 1 by rw [ev39]; exact up3_t (by decide))
              have := i_eq (show v39 37 0 2 = v38 37 0 2 by rw [ev39]; exact up3_t (by decide))
              have := i_eq (show v39 37 0 3 = v38 37 0 3 by rw [ev39]; exact up3_t (by decide))
              have := i_eq (show v39 37 0 4 = v38 37 0 4 by rw [ev39]; exact up3_t (by decide))
              have : ((v39 36 0 3).toInt = 0 ∧ (v39 36 0 4).toInt = 0) ∨ (0 < (v39 36 0 3).toInt ∧ 0 < (v39 36 0 4).toInt) := hI_v39.2.1
              refine ok_bind (k_X8_isWell v39 hI_v39  ) (fun r41 hr41 => ?_)
              have hr41 : (0 : Int) ≤ Int32.toInt r41 ∧ Int32.toInt r41 ≤ (1 : Int) ∧ ((Int32.toInt r41 = 0 ∧ 0 ≤ Int32.toInt (v39 30 0 8)) ∨ (Int32.toInt r41 = 1 ∧ Int32.toInt (v39 30 0 8) < 0)) := hr41
              have : (-1 : Int) ≤ (v39 30 0 8).toInt ∧ (v39 30 0 8).toInt ≤ (100 : Int) := hI_v39.1 30 0 8
              refine ok_ite _ (fun c43 => ?_) (fun c43 => ?_)
              · skip
                have ic43 := i_eq c43
                have : (0 : Int32).toInt = 0 := (by decide)
                refine ok_some ?_
                show IM v39
                have : (-1000100 : Int32).toInt = -1000100 := (by decide)
                have : (-1 : Int) ≤ (v39 30 0 8).toInt ∧ (v39 30 0 8).toInt ≤ (100 : Int) := hI_v39.1 30 0 8
                have := i_bd (v39 30 0 8)
                (first | have := sp_subx (-1000100 : Int32) (v39 30 0 8) (by omega) | obtain ⟨k3, hk3⟩ := sp_sub (-1000100 : Int32) (v39 30 0 8))
                exact hI_v39
              · skip
                have ic43 := i_ne c43
                have : (0 : Int32).toInt = 0 := (by decide)
                refine ok_bind (k_X8_copies_37_36 v39 hI_v39 0 0 (by have : (0 : Int32).toInt = 0 := (by decide); omega) (by have : (0 : Int32).toInt = 0 := (by decide); omega) (by omega)) (fun v46 hr45 => ?_)
                have hr45 : IM v46 := hr45
                have hI_v46 := hr45
                have : ((v46 36 0 3).toInt = 0 ∧ (v46 36 0 4).toInt = 0) ∨ (0 < (v46 36 0 3).toInt ∧ 0 < (v46 36 0 4).toInt) := hI_v46.2.1
                refine ok_let (fun v47 ev47 => ?_)
                have hI_v47 : IM v47 := by
                  rw [ev47]
                  refine hI_v46.upo (by decide) ?_
                  show (0 : Int) ≤ Int32.toInt (0 : Int32) ∧ Int32.toInt (0 : Int32) ≤ (24 : Int)
                  have : (0 : Int32).toInt = 0 := (by decide)
                  omega
                have := i_eq (show v47 30 0 6 = v46 30 0 6 by rw [ev47]; exact up3_j (by decide))
                have := i_eq (show v47 30 0 8 = v46 30 0 8 by rw [ev47]; exact up3_j (by decide))
                have := i_eq (show v47 30 0 9 = v46 30 0 9 by rw [ev47]; exact up3_j (by decide))
                have := i_eq (show v47 30 0 11 = v46 30 0 11 by rw [ev47]; exact up3_j (by decide))
                have := i_eq (show v47 30 0 12 = v46 30 0 12 by rw [ev47]; exact up3_j (by decide))
                have := i_eq (show v47 30 0 17 = 0 by rw [ev47]; exact up3_s)
                have : (0 : Int32).toInt = 0 := (by decide)
                have := i_eq (show v47 36 0 3 = v46 36 0 3 by rw [ev47]; exact up3_t (by decide))
                have := i_eq (show v47 37 0 0 = v46 37 0 0 by rw [ev47]; exact up3_t (by decide))
                have := i_eq (show v47 37 0 1 = v46 37 0 1 by rw [ev47]; exact up3_t (by decide))
                have := i_eq (show v47 37 0 2 = v46 37 0 2 by rw [ev47]; exact up3_t (by decide))
                have := i_eq (show v47 37 0 3 = v46 37 0 3 by rw [ev47]; exact up3_t (by decide))
                have := i_eq (show v47 37 0 4 = v46 37 0 4 by rw [ev47]; exact up3_t (by decide))
                have : ((v47 36 0 3).toInt = 0 ∧ (v47 36 0 4).toInt = 0) ∨ (0 < (v47 36 0 3).toInt ∧ 0 < (v47 36 0 4).toInt) := hI_v47.2.1
                refine ok_some ?_
                show IM v47
                have : (0 : Int) ≤ (v47 36 0 3).toInt ∧ (v47 36 0 3).toInt ≤ (6 : Int) := hI_v47.1 36 0 3
                exact hI_v47
            · skip
              have ic35 := i_ne c35
              have : (0 : Int) ≤ (w205 30 0 11).toInt ∧ (w205 30 0 11).toInt ≤ (5 : Int) := hI_w205.1 30 0 11
              have : (0 : Int32).toInt = 0 := (by decide)
              refine ok_bind (k_X8_must w205 hI_w205 0 ) (fun v50 hr49 => ?_)
              have hr49 : IM v50 ∧ (Int32.toInt (v50 37 0 3) = Int32.toInt (w205 37 0 3)) ∧ (Int32.toInt (v50 37 0 4) = Int32.toInt (w205 37 0 4)) ∧ (Int32.toInt (w205 30 0 8) < 0 ∨ 0 ≤ Int32.toInt (v50 30 0 8)) ∧ (¬ Int32.toInt 0 = 0 ∨ 0 ≤ Int32.toInt (v50 30 0 8)) ∧ (Int32.toInt 0 = 0 ∨ (Int32.toInt (v50 30 0 11) = Int32.toInt (w205 30 0 11) ∧ Int32.toInt (v50 30 0 12) = Int32.toInt (w205 30 0 12))) := hr49
              obtain ⟨hI_v50, hr49⟩ := hr49
              have : ((v50 36 0 3).toInt = 0 ∧ (v50 36 0 4).toInt = 0) ∨ (0 < (v50 36 0 3).toInt ∧ 0 < (v50 36 0 4).toInt) := hI_v50.2.1
              have : (0 : Int) ≤ (w205 37 0 3).toInt ∧ (w205 37 0 3).toInt ≤ (6 : Int) := hI_w205.1 37 0 3
              have : (0 : Int) ≤ (w205 37 0 4).toInt ∧ (w205 37 0 4).toInt ≤ (4 : Int) := hI_w205.1 37 0 4
              have : (-1 : Int) ≤ (w205 30 0 8).toInt ∧ (w205 30 0 8).toInt ≤ (100 : Int) := hI_w205.1 30 0 8
              have : (0 : Int) ≤ (w205 30 0 11).toInt ∧ (w205 30 0 11).toInt ≤ (5 : Int) := hI_w205.1 30 0 11
              have : (0 : Int32).toInt = 0 := (by decide)
              refine ok_let (fun v51 ev51 => ?_)
              have hI_v51 : IM v51 := by
                rw [ev51]
                refine hI_v50.upo (by decide) ?_
                show (0 : Int) ≤ Int32.toInt (0 : Int32) ∧ Int32.toInt (0 : Int32) ≤ (100 : Int)
                have : (0 : Int32).toInt = 0 := (by decide)
                omega
              have := i_eq (show v51 30 0 6 = 0 by rw [ev51]; exact up3_s)
              have : (0 : Int32).toInt = 0 := (by decide)
              have := i_eq (show v51 30 0 8 = v50 30 0 8 by rw [ev51]; exact up3_j (by decide))
              have := i_eq (show v51 30 0 9 = v50 30 0 9 by rw [ev51]; exact up3_j (by decide))
              have := i_eq (show v51 30 0 11 = v50 30 0 11 by rw [ev51]; exact up3_j (by decide))
              have := i_eq (show v51 30 0 12 = v50 30 0 12 by rw [ev51]; exact up3_j (by decide))
              have := i_eq (show v51 30 0 17 = v50 30 0 17 by rw [ev51]; exact up3_j (by decide))
              have := i_eq (show v51 36 0 3 = v50 36 0 3 by rw [ev51]; exact up3_t (by decide))
              have := i_eq (show v51 37 0 0 = v50 37 0 0 by rw [ev51]; exact up3_t (by decide))
              have := i_eq (show v51 37 0 1 = v50 37 0 1 by rw [ev51]; exact up3_t (by decide))
              have := i_eq (show v51 37 0 2 = v50 37 0 2 by rw [ev51]; exact up3_t (by decide))
              have := i_eq (show v51 37 0 3 = v50 37 0 3 by rw [ev51]; exact up3_t (by decide))
              have := i_eq (show v51 37 0 4 = v50 37 0 4 by rw [ev51]; exact up3_t (by decide))
              have : ((v51 36 0 3).toInt = 0 ∧ (v51 36 0 4).toInt = 0) ∨ (0 < (v51 36 0 3).toInt ∧ 0 < (v51 36 0 4).toInt) := hI_v51.2.1
              refine ok_bind (k_X8_isWell v51 hI_v51  ) (fun r53 hr53 => ?_)
              have hr53 : (0 : Int) ≤ Int32.toInt r53 ∧ Int32.toInt r53 ≤ (1 : Int) ∧ ((Int32.toInt r53 = 0 ∧ 0 ≤ Int32.toInt (v51 30 0 8)) ∨ (Int32.toInt r53 = 1 ∧ Int32.toInt (v51 30 0 8) < 0)) := hr53
              have : (-1 : Int) ≤ (v51 30 0 8).toInt ∧ (v51 30 0 8).toInt ≤ (100 : Int) := hI_v51.1 30 0 8
              refine ok_ite _ (fun c55 => ?_) (fun c55 => ?_)
              · skip
                have ic55 := i_eq c55
                have : (0 : Int32).toInt = 0 := (by decide)
                refine ok_some ?_
                show IM v51
                have : (-1000100 : Int32).toInt = -1000100 := (by decide)
                have : (-1 : Int) ≤ (v51 30 0 8).toInt ∧ (v51 30 0 8).toInt ≤ (100 : Int) := hI_v51.1 30 0 8
                have := i_bd (v51 30 0 8)
                (first | have := sp_subx (-1000100 : Int32) (v51 30 0 8) (by omega) | obtain ⟨k4, hk4⟩ := sp_sub (-1000100 : Int32) (v51 30 0 8))
                exact hI_v51
              · skip
                have ic55 := i_ne c55
                have : (0 : Int32).toInt = 0 := (by decide)
                refine ok_bind (k_X8_copies_37_36 v51 hI_v51 0 0 (by have : (0 : Int32).toInt = 0 := (by decide); omega) (by have : (0 : Int32).toInt = 0 := (by decide); omega) (by omega)) (fun v58 hr57 => ?_)
                have hr57 : IM v58 := hr57
                have hI_v58 := hr57
                have : ((v58 36 0 3).toInt = 0 ∧ (v58 36 0 4).toInt = 0) ∨ (0 < (v58 36 0 3).toInt ∧ 0 < (v58 36 0 4).toInt) := hI_v58.2.1
                refine ok_let (fun v59 ev59 => ?_)
                have hI_v59 : IM v59 := by
                  rw [ev59]
                  refine hI_v58.upo (by decide) ?_
                  show (0 : Int) ≤ Int32.toInt (0 : Int32) ∧ Int32.toInt (0 : Int32) ≤ (24 : Int)
                  have : (0 : Int32).toInt = 0 := (by decide)
                  omega
                have := i_eq (show v59 30 0 6 = v58 30 0 6 by rw [ev59]; exact up3_j (by decide))
                have := i_eq (show v59 30 0 8 = v58 30 0 8 by rw [ev59]; exact up3_j (by decide))
                have := i_eq (show v59 30 0 9 = v58 30 0 9 by rw [ev59]; exact up3_j (by decide))
                have := i_eq (show v59 30 0 11 = v58 30 0 11 by rw [ev59]; exact up3_j (by decide))
                have := i_eq (show v59 30 0 12 = v58 30 0 12 by rw [ev59]; exact up3_j (by decide))
                have := i_eq (show v59 30 0 17 = 0 by rw [ev59]; exact up3_s)
                have : (0 : Int32).toInt = 0 := (by decide)
                have := i_eq (show v59 36 0 3 = v58 36 0 3 by rw [ev59]; exact up3_t (by decide))
                have := i_eq (show v59 37 0 0 = v58 37 0 0 by rw [ev59]; exact up3_t (by decide))
                have := i_eq (show v59 37 0 1 = v58 37 0 1 by rw [ev59]; exact up3_t (by decide))
                have := i_eq (show v59 37 0 2 = v58 37 0 2 by rw [ev59]; exact up3_t (by decide))
                have := i_eq (show v59 37 0 3 = v58 37 0 3 by rw [ev59]; exact up3_t (by decide))
                have := i_eq (show v59 37 0 4 = v58 37 0 4 by rw [ev59]; exact up3_t (by decide))
                have : ((v59 36 0 3).toInt = 0 ∧ (v59 36 0 4).toInt = 0) ∨ (0 < (v59 36 0 3).toInt ∧ 0 < (v59 36 0 4).toInt) := hI_v59.2.1
                refine ok_some ?_
                show IM v59
                have : (0 : Int) ≤ (v59 36 0 3).toInt ∧ (v59 36 0 3).toInt ≤ (6 : Int) := hI_v59.1 36 0 3
                exact hI_v59
          · skip
            have ic34 := i_nle c34
            have : (0 : Int32).toInt = 0 := (by decide)
            refine ok_bind (k_X8_readsGuard w205 hI_w205  ) (fun v62 hr61 => ?_)
            have hr61 : IM v62 ∧ (Int32.toInt (v62 37 0 3) = Int32.toInt (w205 37 0 3)) ∧ ((Int32.toInt (w205 30 0 8) < 0 ∧ Int32.toInt (v62 37 0 4) = Int32.toInt (w205 37 0 4) + 1) ∨ 0 ≤ Int32.toInt (v62 30 0 8)) := hr61
            obtain ⟨hI_v62, hr61⟩ := hr61
            have : ((v62 36 0 3).toInt = 0 ∧ (v62 36 0 4).toInt = 0) ∨ (0 < (v62 36 0 3).toInt ∧ 0 < (v62 36 0 4).toInt) := hI_v62.2.1
            have : (0 : Int) ≤ (w205 37 0 3).toInt ∧ (w205 37 0 3).toInt ≤ (6 : Int) := hI_w205.1 37 0 3
            have : (-1 : Int) ≤ (w205 30 0 8).toInt ∧ (w205 30 0 8).toInt ≤ (100 : Int) := hI_w205.1 30 0 8
            have : (0 : Int) ≤ (w205 37 0 4).toInt ∧ (w205 37 0 4).toInt ≤ (4 : Int) := hI_w205.1 37 0 4
            exact ih205 v62 x1_205 hI_v62 (by omega) (by omega) (by omega)
        · skip
          have ic30 := i_ne c30
          have : (0 : Int) ≤ (w205 30 0 11).toInt ∧ (w205 30 0 11).toInt ≤ (5 : Int) := hI_w205.1 30 0 11
          have : (1 : Int32).toInt = 1 := (by decide)
          refine ok_ite _ (fun c63 => ?_) (fun c63 => ?_)
          · skip
            have ic63 := i_eq c63
            have : (0 : Int) ≤ (w205 30 0 11).toInt ∧ (w205 30 0 11).toInt ≤ (5 : Int) := hI_w205.1 30 0 11
            have : (0 : Int32).toInt = 0 := (by decide)
            refine ok_bind (k_X8_must w205 hI_w205 1 ) (fun v66 hr65 => ?_)
            have hr65 : IM v66 ∧ (Int32.toInt (v66 37 0 3) = Int32.toInt (w205 37 0 3)) ∧ (Int32.toInt (v66 37 0 4) = Int32.toInt (w205 37 0 4)) ∧ (Int32.toInt (w205 30 0 8) < 0 ∨ 0 ≤ Int32.toInt (v66 30 0 8)) ∧ (¬ Int32.toInt 1 = 0 ∨ 0 ≤ Int32.toInt (v66 30 0 8)) ∧ (Int32.toInt 1 = 0 ∨ (Int32.toInt (v66 30 0 11) = Int32.toInt (w205 30 0 11) ∧ Int32.toInt (v66 30 0 12) = Int32.toInt (w205 30 0 12))) := hr65
            obtain ⟨hI_v66, hr65⟩ := hr65
            have : ((v66 36 0 3).toInt = 0 ∧ (v66 36 0 4).toInt = 0) ∨ (0 < (v66 36 0 3).toInt ∧ 0 < (v66 36 0 4).toInt) := hI_v66.2.1
            have : (0 : Int) ≤ (w205 37 0 3).toInt ∧ (w205 37 0 3).toInt ≤ (6 : Int) := hI_w205.1 37 0 3
            have : (0 : Int) ≤ (w205 37 0 4).toInt ∧ (w205 37 0 4).toInt ≤ (4 : Int) := hI_w205.1 37 0 4
            have : (-1 : Int) ≤ (w205 30 0 8).toInt ∧ (w205 30 0 8).toInt ≤ (100 : Int) := hI_w205.1 30 0 8
            have : (0 : Int) ≤ (w205 30 0 11).toInt ∧ (w205 30 0 11).toInt ≤ (5 : Int) := hI_w205.1 30 0 11
            have : (1 : Int32).toInt = 1 := (by decide)
            refine ok_let (fun v67 ev67 => ?_)
            have hI_v67 : IM v67 := by
              rw [ev67]
              refine hI_v66.upo (by decide) ?_
              show (0 : Int) ≤ Int32.toInt (0 : Int32) ∧ Int32.toInt (0 : Int32) ≤ (100 : Int)
              have : (0 : Int32).toInt = 0 := (by decide)
              omega
            have := i_eq (show v67 30 0 6 = 0 by rw [ev67]; exact up3_s)
            have : (0 : Int32).toInt = 0 := (by decide)
            have := i_eq (show v67 30 0 8 = v66 30 0 8 by rw [ev67]; exact up3_j (by decide))
            have := i_eq (show v67 30 0 9 = v66 30 0 9 by rw [ev67]; exact up3_j (by decide))
            have := i_eq (show v67 30 0 11 = v66 30 0 11 by rw [ev67]; exact up3_j (by decide))
            have := i_eq (show v67 30 0 12 = v66 30 0 12 by rw [ev67]; exact up3_j (by decide))
            have := i_eq (show v67 30 0 17 = v66 30 0 17 by rw [ev67]; exact up3_j (by decide))
            have := i_eq (show v67 36 0 3 = v66 36 0 3 by rw [ev67]; exact up3_t (by decide))
            have := i_eq (show v67 37 0 0 = v66 37 0 0 by rw [ev67]; exact up3_t (by decide))
            have := i_eq (show v67 37 0 1 = v66 37 0 1 by rw [ev67]; exact up3_t (by decide))
            have := i_eq (show v67 37 0 2 = v66 37 0 2 by rw [ev67]; exact up3_t (by decide))
            have := i_eq (show v67 37 0 3 = v66 37 0 3 by rw [ev67]; exact up3_t (by decide))
            have := i_eq (show v67 37 0 4 = v66 37 0 4 by rw [ev67]; exact up3_t (by decide))
            have : ((v67 36 0 3).toInt = 0 ∧ (v67 36 0 4).toInt = 0) ∨ (0 < (v67 36 0 3).toInt ∧ 0 < (v67 36 0 4).toInt) := hI_v67.2.1
            refine ok_bind (k_X8_isWell v67 hI_v67  ) (fun r69 hr69 => ?_)
            have hr69 : (0 : Int) ≤ Int32.toInt r69 ∧ Int32.toInt r69 ≤ (1 : Int) ∧ ((Int32.toInt r69 = 0 ∧ 0 ≤ Int32.toInt (v67 30 0 8)) ∨ (Int32.toInt r69 = 1 ∧ Int32.toInt (v67 30 0 8) < 0)) := hr69
            have : (-1 : Int) ≤ (v67 30 0 8).toInt ∧ (v67 30 0 8).toInt ≤ (100 : Int) := hI_v67.1 30 0 8
            refine ok_ite _ (fun c71 => ?_) (fun c71 => ?_)
            · skip
              have ic71 := i_eq c71
              have : (0 : Int32).toInt = 0 := (by decide)
              refine ok_some ?_
              show IM v67
              have : (-1000100 : Int32).toInt = -1000100 := (by decide)
              have : (-1 : Int) ≤ (v67 30 0 8).toInt ∧ (v67 30 0 8).toInt ≤ (100 : Int) := hI_v67.1 30 0 8
              have := i_bd (v67 30 0 8)
              (first | have := sp_subx (-1000100 : Int32) (v67 30 0 8) (by omega) | obtain ⟨k5, hk5⟩ := sp_sub (-1000100 : Int32) (v67 30 0 8))
              exact hI_v67
            · skip
              have ic71 := i_ne c71
              have : (0 : Int32).toInt = 0 := (by decide)
              refine ok_bind (k_X8_copies_37_36 v67 hI_v67 0 0 (by have : (0 : Int32).toInt = 0 := (by decide); omega) (by have : (0 : Int32).toInt = 0 := (by decide); omega) (by omega)) (fun v74 hr73 => ?_)
              have hr73 : IM v74 := hr73
              have hI_v74 := hr73
              have : ((v74 36 0 3).toInt = 0 ∧ (v74 36 0 4).toInt = 0) ∨ (0 < (v74 36 0 3).toInt ∧ 0 < (v74 36 0 4).toInt) := hI_v74.2.1
              refine ok_let (fun v75 ev75 => ?_)
              have hI_v75 : IM v75 := by
                rw [ev75]
                refine hI_v74.upo (by decide) ?_
                show (0 : Int) ≤ Int32.toInt (0 : Int32) ∧ Int32.toInt (0 : Int32) ≤ (24 : Int)
                have : (0 : Int32).toInt = 0 := (by decide)
                omega
              have := i_eq (show v75 30 0 6 = v74 30 0 6 by rw [ev75]; exact up3_j (by decide))
              have := i_eq (show v75 30 0 8 = v74 30 0 8 by rw [ev75]; exact up3_j (by decide))
              have := i_eq (show v75 30 0 9 = v74 30 0 9 by rw [ev75]; exact up3_j (by decide))
              have := i_eq (show v75 30 0 11 = v74 30 0 11 by rw [ev75]; exact up3_j (by decide))
              have := i_eq (show v75 30 0 12 = v74 30 0 12 by rw [ev75]; exact up3_j (by decide))
              have := i_eq (show v75 30 0 17 = 0 by rw [ev75]; exact up3_s)
              have : (0 : Int32).toInt = 0 := (by decide)
              have := i_eq (show v75 36 0 3 = v74 36 0 3 by rw [ev75]; exact up3_t (by decide))
              have := i_eq (show v75 37 0 0 = v74 37 0 0 by rw [ev75]; exact up3_t (by decide))
              have := i_eq (show v75 37 0 1 = v74 37 0 1 by rw [ev75]; exact up3_t (by decide))
              have := i_eq (show v75 37 0 2 = v74 37 0 2 by rw [ev75]; exact up3_t (by decide))
              have := i_eq (show v75 37 0 3 = v74 37 0 3 by rw [ev75]; exact up3_t (by decide))
              have := i_eq (show v75 37 0 4 = v74 37 0 4 by rw [ev75]; exact up3_t (by decide))
              have : ((v75 36 0 3).toInt = 0 ∧ (v75 36 0 4).toInt = 0) ∨ (0 < (v75 36 0 3).toInt ∧ 0 < (v75 36 0 4).toInt) := hI_v75.2.1
              refine ok_some ?_
              show IM v75
              have : (0 : Int) ≤ (v75 36 0 3).toInt ∧ (v75 36 0 3).toInt ≤ (6 : Int) := hI_v75.1 36 0 3
              exact hI_v75
          · skip
            have ic63 := i_ne c63
            have : (0 : Int) ≤ (w205 30 0 11).toInt ∧ (w205 30 0 11).toInt ≤ (5 : Int) := hI_w205.1 30 0 11
            have : (0 : Int32).toInt = 0 := (by decide)
            refine ok_bind (k_X8_must w205 hI_w205 0 ) (fun v78 hr77 => ?_)
            have hr77 : IM v78 ∧ (Int32.toInt (v78 37 0 3) = Int32.toInt (w205 37 0 3)) ∧ (Int32.toInt (v78 37 0 4) = Int32.toInt (w205 37 0 4)) ∧ (Int32.toInt (w205 30 0 8) < 0 ∨ 0 ≤ Int32.toInt (v78 30 0 8)) ∧ (¬ Int32.toInt 0 = 0 ∨ 0 ≤ Int32.toInt (v78 30 0 8)) ∧ (Int32.toInt 0 = 0 ∨ (Int32.toInt (v78 30 0 11) = Int32.toInt (w205 30 0 11) ∧ Int32.toInt (v78 30 0 12) = Int32.toInt (w205 30 0 12))) := hr77
            obtain ⟨hI_v78, hr77⟩ := hr77
            have : ((v78 36 0 3).toInt = 0 ∧ (v78 36 0 4).toInt = 0) ∨ (0 < (v78 36 0 3).toInt ∧ 0 < (v78 36 0 4).toInt) := hI_v78.2.1
            have : (0 : Int) ≤ (w205 37 0 3).toInt ∧ (w205 37 0 3).toInt ≤ (6 : Int) := hI_w205.1 37 0 3
            have : (0 : Int) ≤ (w205 37 0 4).toInt ∧ (w205 37 0 4).toInt ≤ (4 : Int) := hI_w205.1 37 0 4
            have : (-1 : Int) ≤ (w205 30 0 8).toInt ∧ (w205 30 0 8).toInt ≤ (100 : Int) := hI_w205.1 30 0 8
            have : (0 : Int) ≤ (w205 30 0 11).toInt ∧ (w205 30 0 11).toInt ≤ (5 : Int) := hI_w205.1 30 0 11
            have : (0 : Int32).toInt = 0 := (by decide)
            refine ok_let (fun v79 ev79 => ?_)
            have hI_v79 : IM v79 := by
              rw [ev79]
              refine hI_v78.upo (by decide) ?_
              show (0 : Int) ≤ Int32.toInt (0 : Int32) ∧ Int32.toInt (0 : Int32) ≤ (100 : Int)
              have : (0 : Int32).toInt = 0 := (by decide)
              omega
            have := i_eq (show v79 30 0 6 = 0 by rw [ev79]; exact up3_s)
            have : (0 : Int32).toInt = 0 := (by decide)
            have := i_eq (show v79 30 0 8 = v78 30 0 8 by rw [ev79]; exact up3_j (by decide))
            have := i_eq (show v79 30 0 9 = v78 30 0 9 by rw [ev79]; exact up3_j (by decide))
            have := i_eq (show v79 30 0 11 = v78 30 0 11 by rw [ev79]; exact up3_j (by decide))
            have := i_eq (show v79 30 0 12 = v78 30 0 12 by rw [ev79]; exact up3_j (by decide))
            have := i_eq (show v79 30 0 17 = v78 30 0 17 by rw [ev79]; exact up3_j (by decide))
            have := i_eq (show v79 36 0 3 = v78 36 0 3 by rw [ev79]; exact up3_t (by decide))
            have := i_eq (show v79 37 0 0 = v78 37 0 0 by rw [ev79]; exact up3_t (by decide))
            have := i_eq (show v79 37 0 1 = v78 37 0 1 by rw [ev79]; exact up3_t (by decide))
            have := i_eq (show v79 37 0 2 = v78 37 0 2 by rw [ev79]; exact up3_t (by decide))
            have := i_eq (show v79 37 0 3 = v78 37 0 3 by rw [ev79]; exact up3_t (by decide))
            have := i_eq (show v79 37 0 4 = v78 37 0 4 by rw [ev79]; exact up3_t (by decide))
            have : ((v79 36 0 3).toInt = 0 ∧ (v79 36 0 4).toInt = 0) ∨ (0 < (v79 36 0 3).toInt ∧ 0 < (v79 36 0 4).toInt) := hI_v79.2.1
            refine ok_bind (k_X8_isWell v79 hI_v79  ) (fun r81 hr81 => ?_)
            have hr81 : (0 : Int) ≤ Int32.toInt r81 ∧ Int32.toInt r81 ≤ (1 : Int) ∧ ((Int32.toInt r81 = 0 ∧ 0 ≤ Int32.toInt (v79 30 0 8)) ∨ (Int32.toInt r81 = 1 ∧ Int32.toInt (v79 30 0 8) < 0)) := hr81
            have : (-1 : Int) ≤ (v79 30 0 8).toInt ∧ (v79 30 0 8).toInt ≤ (100 : Int) := hI_v79.1 30 0 8
            refine ok_ite _ (fun c83 => ?_) (fun c83 => ?_)
            · skip
              have ic83 := i_eq c83
              have : (0 : Int32).toInt = 0 := (by decide)
              refine ok_some ?_
              show IM v79
              have : (-1000100 : Int32).toInt = -1000100 := (by decide)
              have : (-1 : Int) ≤ (v79 30 0 8).toInt ∧ (v79 30 0 8).toInt ≤ (100 : Int) := hI_v79.1 30 0 8
              have := i_bd (v79 30 0 8)
              (first | have := sp_subx (-1000100 : Int32) (v79 30 0 8) (by omega) | obtain ⟨k6, hk6⟩ := sp_sub (-1000100 : Int32) (v79 30 0 8))
              exact hI_v79
            · skip
              have ic83 := i_ne c83
              have : (0 : Int32).toInt = 0 := (by decide)
              refine ok_bind (k_X8_copies_37_36 v79 hI_v79 0 0 (by have : (0 : Int32).toInt = 0 := (by decide); omega) (by have : (0 : Int32).toInt = 0 := (by decide); omega) (by omega)) (fun v86 hr85 => ?_)
              have hr85 : IM v86 := hr85
              have hI_v86 := hr85
              have : ((v86 36 0 3).toInt = 0 ∧ (v86 36 0 4).toInt = 0) ∨ (0 < (v86 36 0 3).toInt ∧ 0 < (v86 36 0 4).toInt) := hI_v86.2.1
              refine ok_let (fun v87 ev87 => ?_)
              have hI_v87 : IM v87 := by
                rw [ev87]
                refine hI_v86.upo (by decide) ?_
                show (0 : Int) ≤ Int32.toInt (0 : Int32) ∧ Int32.toInt (0 : Int32) ≤ (24 : Int)
                have : (0 : Int32).toInt = 0 := (by decide)
                omega
              have := i_eq (show v87 30 0 6 = v86 30 0 6 by rw [ev87]; exact up3_j (by decide))
              have := i_eq (show v87 30 0 8 = v86 30 0 8 by rw [ev87]; exact up3_j (by decide))
              have := i_eq (show v87 30 0 9 = v86 30 0 9 by rw [ev87]; exact up3_j (by decide))
              have := i_eq (show v87 30 0 11 = v86 30 0 11 by rw [ev87]; exact up3_j (by decide))
              have := i_eq (show v87 30 0 12 = v86 30 0 12 by rw [ev87]; exact up3_j (by decide))
              have := i_eq (show v87 30 0 17 = 0 by rw [ev87]; exact up3_s)
              have : (0 : Int32).toInt = 0 := (by decide)
              have := i_eq (show v87 36 0 3 = v86 36 0 3 by rw [ev87]; exact up3_t (by decide))
              have := i_eq (show v87 37 0 0 = v86 37 0 0 by rw [ev87]; exact up3_t (by decide))
              have := i_eq (show v87 37 0 1 = v86 37 0 1 by rw [ev87]; exact up3_t (by decide))
              have := i_eq (show v87 37 0 2 = v86 37 0 2 by rw [ev87]; exact up3_t (by decide))
              have := i_eq (show v87 37 0 3 = v86 37 0 3 by rw [ev87]; exact up3_t (by decide))
              have := i_eq (show v87 37 0 4 = v86 37 0 4 by rw [ev87]; exact up3_t (by decide))
              have : ((v87 36 0 3).toInt = 0 ∧ (v87 36 0 4).toInt = 0) ∨ (0 < (v87 36 0 3).toInt ∧ 0 < (v87 36 0 4).toInt) := hI_v87.2.1
              refine ok_some ?_
              show IM v87
              have : (0 : Int) ≤ (v87 36 0 3).toInt ∧ (v87 36 0 3).toInt ≤ (6 : Int) := hI_v87.1 36 0 3
              exact hI_v87
  have loop147 : ∀ (n147 : Nat) (w147 : Mm) (x1_147 : Int32), (IM w147) → (0 ≤ Int32.toInt (w147 30 0 8) ∨ 0 < Int32.toInt (w147 37 0 3) ∨ (Int32.toInt (w147 30 0 11) = 1 ∧ Int32.toInt (w147 30 0 12) = 119)) → (7 - Int32.toInt (w147 37 0 3) < (n147 : Int) ∨ (0 ≤ Int32.toInt (w147 30 0 8) ∧ 0 < (n147 : Int))) → ok (g_X8_gate_L147   n147 w147 x1_147) (fun z => IM z.2) := by
    intro n147
    induction n147 with
    | zero =>
      intro w147 x1_147 hI_w147 hv0_147 hm147
      exfalso
      have : (-1 : Int) ≤ (w147 30 0 8).toInt ∧ (w147 30 0 8).toInt ≤ (100 : Int) := hI_w147.1 30 0 8
      have : (0 : Int) ≤ (w147 37 0 3).toInt ∧ (w147 37 0 3).toInt ≤ (6 : Int) := hI_w147.1 37 0 3
      have : (0 : Int) ≤ (w147 30 0 11).toInt ∧ (w147 30 0 11).toInt ≤ (5 : Int) := hI_w147.1 30 0 11
      omega
    | succ n147 ih147 =>
      intro w147 x1_147 hI_w147 hv0_147 hm147
      show ok (b_X8_gate_L147  (g_X8_gate_L147   n147)  w147 x1_147) _
      unfold b_X8_gate_L147
      try rw [tc_0]
      try rw [tc_1]
      try rw [tc_2]
      try rw [tc_3]
      have : ((w147 36 0 3).toInt = 0 ∧ (w147 36 0 4).toInt = 0) ∨ (0 < (w147 36 0 3).toInt ∧ 0 < (w147 36 0 4).toInt) := hI_w147.2.1
      have : (-1 : Int) ≤ (w147 30 0 8).toInt ∧ (w147 30 0 8).toInt ≤ (100 : Int) := hI_w147.1 30 0 8
      have : (0 : Int) ≤ (w147 37 0 3).toInt ∧ (w147 37 0 3).toInt ≤ (6 : Int) := hI_w147.1 37 0 3
      have : (0 : Int) ≤ (w147 30 0 11).toInt ∧ (w147 30 0 11).toInt ≤ (5 : Int) := hI_w147.1 30 0 11
      refine ok_bind (k_X8_isWell w147 hI_w147  ) (fun r89 hr89 => ?_)
      have hr89 : (0 : Int) ≤ Int32.toInt r89 ∧ Int32.toInt r89 ≤ (1 : Int) ∧ ((Int32.toInt r89 = 0 ∧ 0 ≤ Int32.toInt (w147 30 0 8)) ∨ (Int32.toInt r89 = 1 ∧ Int32.toInt (w147 30 0 8) < 0)) := hr89
      have : (-1 : Int) ≤ (w147 30 0 8).toInt ∧ (w147 30 0 8).toInt ≤ (100 : Int) := hI_w147.1 30 0 8
      refine ok_ite _ (fun c91 => ?_) (fun c91 => ?_)
      · skip
        have ic91 := i_eq c91
        have : (0 : Int32).toInt = 0 := (by decide)
        refine ok_ite _ (fun c92 => ?_) (fun c92 => ?_)
        · skip
          have ic92 := i_eq c92
          have : (0 : Int) ≤ (w147 30 0 11).toInt ∧ (w147 30 0 11).toInt ≤ (5 : Int) := hI_w147.1 30 0 11
          have : (1 : Int32).toInt = 1 := (by decide)
          refine ok_bind (k_X8_kindOf w147 hI_w147 (w147 30 0 12) ) (fun r94 hr94 => ?_)
          have hr94 : ((Int32.toInt r94 = 0 ∧ ¬ (Int32.toInt (w147 30 0 12) = 107 ∨ Int32.toInt (w147 30 0 12) = 115 ∨ Int32.toInt (w147 30 0 12) = 101 ∨ Int32.toInt (w147 30 0 12) = 100 ∨ Int32.toInt (w147 30 0 12) = 103)) ∨ (1 ≤ Int32.toInt r94 ∧ (Int32.toInt (w147 30 0 12) = 107 ∨ Int32.toInt (w147 30 0 12) = 115 ∨ Int32.toInt (w147 30 0 12) = 101 ∨ Int32.toInt (w147 30 0 12) = 100 ∨ Int32.toInt (w147 30 0 12) = 103))) := hr94
          refine ok_ite _ (fun c96 => ?_) (fun c96 => ?_)
          · skip
            have ic96 := i_le c96
            have : (0 : Int32).toInt = 0 := (by decide)
            refine ok_bind (k_X8_must w147 hI_w147 0 ) (fun v99 hr98 => ?_)
            have hr98 : IM v99 ∧ (Int32.toInt (v99 37 0 3) = Int32.toInt (w147 37 0 3)) ∧ (Int32.toInt (v99 37 0 4) = Int32.toInt (w147 37 0 4)) ∧ (Int32.toInt (w147 30 0 8) < 0 ∨ 0 ≤ Int32.toInt (v99 30 0 8)) ∧ (¬ Int32.toInt 0 = 0 ∨ 0 ≤ Int32.toInt (v99 30 0 8)) ∧ (Int32.toInt 0 = 0 ∨ (Int32.toInt (v99 30 0 11) = Int32.toInt (w147 30 0 11) ∧ Int32.toInt (v99 30 0 12) = Int32.toInt (w147 30 0 12))) := hr98
            obtain ⟨hI_v99, hr98⟩ := hr98
            have : ((v99 36 0 3).toInt = 0 ∧ (v99 36 0 4).toInt = 0) ∨ (0 < (v99 36 0 3).toInt ∧ 0 < (v99 36 0 4).toInt) := hI_v99.2.1
            have : (0 : Int) ≤ (w147 37 0 3).toInt ∧ (w147 37 0 3).toInt ≤ (6 : Int) := hI_w147.1 37 0 3
            have : (0 : Int) ≤ (w147 37 0 4).toInt ∧ (w147 37 0 4).toInt ≤ (4 : Int) := hI_w147.1 37 0 4
            have : (-1 : Int) ≤ (w147 30 0 8).toInt ∧ (w147 30 0 8).toInt ≤ (100 : Int) := hI_w147.1 30 0 8
            have : (0 : Int) ≤ (w147 30 0 11).toInt ∧ (w147 30 0 11).toInt ≤ (5 : Int) := hI_w147.1 30 0 11
            have : (0 : Int32).toInt = 0 := (by decide)
            exact loop205 2000 v99 x1_147 hI_v99 (by omega) (by omega) (by omega)
          · skip
            have ic96 := i_nle c96
            have : (0 : Int32).toInt = 0 := (by decide)
            refine ok_bind (k_X8_must w147 hI_w147 1 ) (fun v102 hr101 => ?_)
            have hr101 : IM v102 ∧ (Int32.toInt (v102 37 0 3) = Int32.toInt (w147 37 0 3)) ∧ (Int32.toInt (v102 37 0 4) = Int32.toInt (w147 37 0 4)) ∧ (Int32.toInt (w147 30 0 8) < 0 ∨ 0 ≤ Int32.toInt (v102 30 0 8)) ∧ (¬ Int32.toInt 1 = 0 ∨ 0 ≤ Int32.toInt (v102 30 0 8)) ∧ (Int32.toInt 1 = 0 ∨ (Int32.toInt (v102 30 0 11) = Int32.toInt (w147 30 0 11) ∧ Int32.toInt (v102 30 0 12) = Int32.toInt (w147 30 0 12))) := hr101
            obtain ⟨hI_v102, hr101⟩ := hr101
            have : ((v102 36 0 3).toInt = 0 ∧ (v102 36 0 4).toInt = 0) ∨ (0 < (v102 36 0 3).toInt ∧ 0 < (v102 36 0 4).toInt) := hI_v102.2.1
            have : (0 : Int) ≤ (w147 37 0 3).toInt ∧ (w147 37 0 3).toInt ≤ (6 : Int) := hI_w147.1 37 0 3
            have : (0 : Int) ≤ (w147 37 0 4).toInt ∧ (w147 37 0 4).toInt ≤ (4 : Int) := hI_w147.1 37 0 4
            have : (-1 : Int) ≤ (w147 30 0 8).toInt ∧ (w147 30 0 8).toInt ≤ (100 : Int) := hI_w147.1 30 0 8
            have : (0 : Int) ≤ (w147 30 0 11).toInt ∧ (w147 30 0 11).toInt ≤ (5 : Int) := hI_w147.1 30 0 11
            have : (1 : Int32).toInt = 1 := (by decide)
            exact loop205 2000 v102 x1_147 hI_v102 (by omega) (by omega) (by omega)
        · skip
          have ic92 := i_ne c92
          have : (0 : Int) ≤ (w147 30 0 11).toInt ∧ (w147 30 0 11).toInt ≤ (5 : Int) := hI_w147.1 30 0 11
          have : (1 : Int32).toInt = 1 := (by decide)
          refine ok_bind (k_X8_must w147 hI_w147 0 ) (fun v105 hr104 => ?_)
          have hr104 : IM v105 ∧ (Int32.toInt (v105 37 0 3) = Int32.toInt (w147 37 0 3)) ∧ (Int32.toInt (v105 37 0 4) = Int32.toInt (w147 37 0 4)) ∧ (Int32.toInt (w147 30 0 8) < 0 ∨ 0 ≤ Int32.toInt (v105 30 0 8)) ∧ (¬ Int32.toInt 0 = 0 ∨ 0 ≤ Int32.toInt (v105 30 0 8)) ∧ (Int32.toInt 0 = 0 ∨ (Int32.toInt (v105 30 0 11) = Int32.toInt (w147 30 0 11) ∧ Int32.toInt (v105 30 0 12) = Int32.toInt (w147 30 0 12))) := hr104
          obtain ⟨hI_v105, hr104⟩ := hr104
          have : ((v105 36 0 3).toInt = 0 ∧ (v105 36 0 4).toInt = 0) ∨ (0 < (v105 36 0 3).toInt ∧ 0 < (v105 36 0 4).toInt) := hI_v105.2.1
          have : (0 : Int) ≤ (w147 37 0 3).toInt ∧ (w147 37 0 3).toInt ≤ (6 : Int) := hI_w147.1 37 0 3
          have : (0 : Int) ≤ (w147 37 0 4).toInt ∧ (w147 37 0 4).toInt ≤ (4 : Int) := hI_w147.1 37 0 4
          have : (-1 : Int) ≤ (w147 30 0 8).toInt ∧ (w147 30 0 8).toInt ≤ (100 : Int) := hI_w147.1 30 0 8
          have : (0 : Int) ≤ (w147 30 0 11).toInt ∧ (w147 30 0 11).toInt ≤ (5 : Int) := hI_w147.1 30 0 11
          have : (0 : Int32).toInt = 0 := (by decide)
          exact loop205 2000 v105 x1_147 hI_v105 (by omega) (by omega) (by omega)
      · skip
        have ic91 := i_ne c91
        have : (0 : Int32).toInt = 0 := (by decide)
        refine ok_ite _ (fun c106 => ?_) (fun c106 => ?_)
        · skip
          have ic106 := i_eq c106
          have : (0 : Int) ≤ (w147 30 0 11).toInt ∧ (w147 30 0 11).toInt ≤ (5 : Int) := hI_w147.1 30 0 11
          have : (1 : Int32).toInt = 1 := (by decide)
          refine ok_ite _ (fun c107 => ?_) (fun c107 => ?_)
          · skip
            have ic107 := i_eq c107
            have : (119 : Int32).toInt = 119 := (by decide)
            refine ok_bind (k_X8_readsWord w147 hI_w147  ) (fun v110 hr109 => ?_)
            have hr109 : IM v110 ∧ (Int32.toInt (v110 37 0 4) = Int32.toInt (w147 37 0 4)) ∧ ((Int32.toInt (w147 30 0 8) < 0 ∧ Int32.toInt (v110 37 0 3) = Int32.toInt (w147 37 0 3) + 1) ∨ 0 ≤ Int32.toInt (v110 30 0 8)) := hr109
            obtain ⟨hI_v110, hr109⟩ := hr109
            have : ((v110 36 0 3).toInt = 0 ∧ (v110 36 0 4).toInt = 0) ∨ (0 < (v110 36 0 3).toInt ∧ 0 < (v110 36 0 4).toInt) := hI_v110.2.1
            have : (0 : Int) ≤ (w147 37 0 4).toInt ∧ (w147 37 0 4).toInt ≤ (4 : Int) := hI_w147.1 37 0 4
            have : (-1 : Int) ≤ (w147 30 0 8).toInt ∧ (w147 30 0 8).toInt ≤ (100 : Int) := hI_w147.1 30 0 8
            have : (0 : Int) ≤ (w147 37 0 3).toInt ∧ (w147 37 0 3).toInt ≤ (6 : Int) := hI_w147.1 37 0 3
            exact ih147 v110 x1_147 hI_v110 (by omega) (by omega)
          · skip
            have ic107 := i_ne c107
            have : (119 : Int32).toInt = 119 := (by decide)
            refine ok_ite _ (fun c111 => ?_) (fun c111 => ?_)
            · skip
              have ic111 := i_eq c111
              have : (0 : Int) ≤ (w147 30 0 11).toInt ∧ (w147 30 0 11).toInt ≤ (5 : Int) := hI_w147.1 30 0 11
              have : (1 : Int32).toInt = 1 := (by decide)
              refine ok_bind (k_X8_kindOf w147 hI_w147 (w147 30 0 12) ) (fun r113 hr113 => ?_)
              have hr113 : ((Int32.toInt r113 = 0 ∧ ¬ (Int32.toInt (w147 30 0 12) = 107 ∨ Int32.toInt (w147 30 0 12) = 115 ∨ Int32.toInt (w147 30 0 12) = 101 ∨ Int32.toInt (w147 30 0 12) = 100 ∨ Int32.toInt (w147 30 0 12) = 103)) ∨ (1 ≤ Int32.toInt r113 ∧ (Int32.toInt (w147 30 0 12) = 107 ∨ Int32.toInt (w147 30 0 12) = 115 ∨ Int32.toInt (w147 30 0 12) = 101 ∨ Int32.toInt (w147 30 0 12) = 100 ∨ Int32.toInt (w147 30 0 12) = 103))) := hr113
              refine ok_ite _ (fun c115 => ?_) (fun c115 => ?_)
              · skip
                have ic115 := i_le c115
                have : (0 : Int32).toInt = 0 := (by decide)
                refine ok_bind (k_X8_must w147 hI_w147 0 ) (fun v118 hr117 => ?_)
                have hr117 : IM v118 ∧ (Int32.toInt (v118 37 0 3) = Int32.toInt (w147 37 0 3)) ∧ (Int32.toInt (v118 37 0 4) = Int32.toInt (w147 37 0 4)) ∧ (Int32.toInt (w147 30 0 8) < 0 ∨ 0 ≤ Int32.toInt (v118 30 0 8)) ∧ (¬ Int32.toInt 0 = 0 ∨ 0 ≤ Int32.toInt (v118 30 0 8)) ∧ (Int32.toInt 0 = 0 ∨ (Int32.toInt (v118 30 0 11) = Int32.toInt (w147 30 0 11) ∧ Int32.toInt (v118 30 0 12) = Int32.toInt (w147 30 0 12))) := hr117
                obtain ⟨hI_v118, hr117⟩ := hr117
                have : ((v118 36 0 3).toInt = 0 ∧ (v118 36 0 4).toInt = 0) ∨ (0 < (v118 36 0 3).toInt ∧ 0 < (v118 36 0 4).toInt) := hI_v118.2.1
                have : (0 : Int) ≤ (w147 37 0 3).toInt ∧ (w147 37 0 3).toInt ≤ (6 : Int) := hI_w147.1 37 0 3
                have : (0 : Int) ≤ (w147 37 0 4).toInt ∧ (w147 37 0 4).toInt ≤ (4 : Int) := hI_w147.1 37 0 4
                have : (-1 : Int) ≤ (w147 30 0 8).toInt ∧ (w147 30 0 8).toInt ≤ (100 : Int) := hI_w147.1 30 0 8
                have : (0 : Int) ≤ (w147 30 0 11).toInt ∧ (w147 30 0 11).toInt ≤ (5 : Int) := hI_w147.1 30 0 11
                have : (0 : Int32).toInt = 0 := (by decide)
                exact loop205 2000 v118 x1_147 hI_v118 (by omega) (by omega) (by omega)
              · skip
                have ic115 := i_nle c115
                have : (0 : Int32).toInt = 0 := (by decide)
                refine ok_bind (k_X8_must w147 hI_w147 1 ) (fun v121 hr120 => ?_)
                have hr120 : IM v121 ∧ (Int32.toInt (v121 37 0 3) = Int32.toInt (w147 37 0 3)) ∧ (Int32.toInt (v121 37 0 4) = Int32.toInt (w147 37 0 4)) ∧ (Int32.toInt (w147 30 0 8) < 0 ∨ 0 ≤ Int32.toInt (v121 30 0 8)) ∧ (¬ Int32.toInt 1 = 0 ∨ 0 ≤ Int32.toInt (v121 30 0 8)) ∧ (Int32.toInt 1 = 0 ∨ (Int32.toInt (v121 30 0 11) = Int32.toInt (w147 30 0 11) ∧ Int32.toInt (v121 30 0 12) = Int32.toInt (w147 30 0 12))) := hr120
                obtain ⟨hI_v121, hr120⟩ := hr120
                have : ((v121 36 0 3).toInt = 0 ∧ (v121 36 0 4).toInt = 0) ∨ (0 < (v121 36 0 3).toInt ∧ 0 < (v121 36 0 4).toInt) := hI_v121.2.1
                have : (0 : Int) ≤ (w147 37 0 3).toInt ∧ (w147 37 0 3).toInt ≤ (6 : Int) := hI_w147.1 37 0 3
                have : (0 : Int) ≤ (w147 37 0 4).toInt ∧ (w147 37 0 4).toInt ≤ (4 : Int) := hI_w147.1 37 0 4
                have : (-1 : Int) ≤ (w147 30 0 8).toInt ∧ (w147 30 0 8).toInt ≤ (100 : Int) := hI_w147.1 30 0 8
                have : (0 : Int) ≤ (w147 30 0 11).toInt ∧ (w147 30 0 11).toInt ≤ (5 : Int) := hI_w147.1 30 0 11
                have : (1 : Int32).toInt = 1 := (by decide)
                exact loop205 2000 v121 x1_147 hI_v121 (by omega) (by omega) (by omega)
            · skip
              have ic111 := i_ne c111
              have : (0 : Int) ≤ (w147 30 0 11).toInt ∧ (w147 30 0 11).toInt ≤ (5 : Int) := hI_w147.1 30 0 11
              have : (1 : Int32).toInt = 1 := (by decide)
              refine ok_bind (k_X8_must w147 hI_w147 0 ) (fun v124 hr123 => ?_)
              have hr123 : IM v124 ∧ (Int32.toInt (v124 37 0 3) = Int32.toInt (w147 37 0 3)) ∧ (Int32.toInt (v124 37 0 4) = Int32.toInt (w147 37 0 4)) ∧ (Int32.toInt (w147 30 0 8) < 0 ∨ 0 ≤ Int32.toInt (v124 30 0 8)) ∧ (¬ Int32.toInt 0 = 0 ∨ 0 ≤ Int32.toInt (v124 30 0 8)) ∧ (Int32.toInt 0 = 0 ∨ (Int32.toInt (v124 30 0 11) = Int32.toInt (w147 30 0 11) ∧ Int32.toInt (v124 30 0 12) = Int32.toInt (w147 30 0 12))) := hr123
              obtain ⟨hI_v124, hr123⟩ := hr123
              have : ((v124 36 0 3).toInt = 0 ∧ (v124 36 0 4).toInt = 0) ∨ (0 < (v124 36 0 3).toInt ∧ 0 < (v124 36 0 4).toInt) := hI_v124.2.1
              have : (0 : Int) ≤ (w147 37 0 3).toInt ∧ (w147 37 0 3).toInt ≤ (6 : Int) := hI_w147.1 37 0 3
              have : (0 : Int) ≤ (w147 37 0 4).toInt ∧ (w147 37 0 4).toInt ≤ (4 : Int) := hI_w147.1 37 0 4
              have : (-1 : Int) ≤ (w147 30 0 8).toInt ∧ (w147 30 0 8).toInt ≤ (100 : Int) := hI_w147.1 30 0 8
              have : (0 : Int) ≤ (w147 30 0 11).toInt ∧ (w147 30 0 11).toInt ≤ (5 : Int) := hI_w147.1 30 0 11
              have : (0 : Int32).toInt = 0 := (by decide)
              exact loop205 2000 v124 x1_147 hI_v124 (by omega) (by omega) (by omega)
        · skip
          have ic106 := i_ne c106
          have : (0 : Int) ≤ (w147 30 0 11).toInt ∧ (w147 30 0 11).toInt ≤ (5 : Int) := hI_w147.1 30 0 11
          have : (1 : Int32).toInt = 1 := (by decide)
          refine ok_ite _ (fun c125 => ?_) (fun c125 => ?_)
          · skip
            have ic125 := i_eq c125
            have : (0 : Int) ≤ (w147 30 0 11).toInt ∧ (w147 30 0 11).toInt ≤ (5 : Int) := hI_w147.1 30 0 11
            have : (1 : Int32).toInt = 1 := (by decide)
            refine ok_bind (k_X8_kindOf w147 hI_w147 (w147 30 0 12) ) (fun r127 hr127 => ?_)
            have hr127 : ((Int32.toInt r127 = 0 ∧ ¬ (Int32.toInt (w147 30 0 12) = 107 ∨ Int32.toInt (w147 30 0 12) = 115 ∨ Int32.toInt (w147 30 0 12) = 101 ∨ Int32.toInt (w147 30 0 12) = 100 ∨ Int32.toInt (w147 30 0 12) = 103)) ∨ (1 ≤ Int32.toInt r127 ∧ (Int32.toInt (w147 30 0 12) = 107 ∨ Int32.toInt (w147 30 0 12) = 115 ∨ Int32.toInt (w147 30 0 12) = 101 ∨ Int32.toInt (w147 30 0 12) = 100 ∨ Int32.toInt (w147 30 0 12) = 103))) := hr127
            refine ok_ite _ (fun c129 => ?_) (fun c129 => ?_)
            · skip
              have ic129 := i_le c129
              have : (0 : Int32).toInt = 0 := (by decide)
              refine ok_bind (k_X8_must w147 hI_w147 0 ) (fun v132 hr131 => ?_)
              have hr131 : IM v132 ∧ (Int32.toInt (v132 37 0 3) = Int32.toInt (w147 37 0 3)) ∧ (Int32.toInt (v132 37 0 4) = Int32.toInt (w147 37 0 4)) ∧ (Int32.toInt (w147 30 0 8) < 0 ∨ 0 ≤ Int32.toInt (v132 30 0 8)) ∧ (¬ Int32.toInt 0 = 0 ∨ 0 ≤ Int32.toInt (v132 30 0 8)) ∧ (Int32.toInt 0 = 0 ∨ (Int32.toInt (v132 30 0 11) = Int32.toInt (w147 30 0 11) ∧ Int32.toInt (v132 30 0 12) = Int32.toInt (w147 30 0 12))) := hr131
              obtain ⟨hI_v132, hr131⟩ := hr131
              have : ((v132 36 0 3).toInt = 0 ∧ (v132 36 0 4).toInt = 0) ∨ (0 < (v132 36 0 3).toInt ∧ 0 < (v132 36 0 4).toInt) := hI_v132.2.1
              have : (0 : Int) ≤ (w147 37 0 3).toInt ∧ (w147 37 0 3).toInt ≤ (6 : Int) := hI_w147.1 37 0 3
              have : (0 : Int) ≤ (w147 37 0 4).toInt ∧ (w147 37 0 4).toInt ≤ (4 : Int) := hI_w147.1 37 0 4
              have : (-1 : Int) ≤ (w147 30 0 8).toInt ∧ (w147 30 0 8).toInt ≤ (100 : Int) := hI_w147.1 30 0 8
              have : (0 : Int) ≤ (w147 30 0 11).toInt ∧ (w147 30 0 11).toInt ≤ (5 : Int) := hI_w147.1 30 0 11
              have : (0 : Int32).toInt = 0 := (by decide)
              exact loop205 2000 v132 x1_147 hI_v132 (by omega) (by omega) (by omega)
            · skip
              have ic129 := i_nle c129
              have : (0 : Int32).toInt = 0 := (by decide)
              refine ok_bind (k_X8_must w147 hI_w147 1 ) (fun v135 hr134 => ?_)
              have hr134 : IM v135 ∧ (Int32.toInt (v135 37 0 3) = Int32.toInt (w147 37 0 3)) ∧ (Int32.toInt (v135 37 0 4) = Int32.toInt (w147 37 0 4)) ∧ (Int32.toInt (w147 30 0 8) < 0 ∨ 0 ≤ Int32.toInt (v135 30 0 8)) ∧ (¬ Int32.toInt 1 = 0 ∨ 0 ≤ Int32.toInt (v135 30 0 8)) ∧ (Int32.toInt 1 = 0 ∨ (Int32.toInt (v135 30 0 11) = Int32.toInt (w147 30 0 11) ∧ Int32.toInt (v135 30 0 12) = Int32.toInt (w147 30 0 12))) := hr134
              obtain ⟨hI_v135, hr134⟩ := hr134
              have : ((v135 36 0 3).toInt = 0 ∧ (v135 36 0 4).toInt = 0) ∨ (0 < (v135 36 0 3).toInt ∧ 0 < (v135 36 0 4).toInt) := hI_v135.2.1
              have : (0 : Int) ≤ (w147 37 0 3).toInt ∧ (w147 37 0 3).toInt ≤ (6 : Int) := hI_w147.1 37 0 3
              have : (0 : Int) ≤ (w147 37 0 4).toInt ∧ (w147 37 0 4).toInt ≤ (4 : Int) := hI_w147.1 37 0 4
              have : (-1 : Int) ≤ (w147 30 0 8).toInt ∧ (w147 30 0 8).toInt ≤ (100 : Int) := hI_w147.1 30 0 8
              have : (0 : Int) ≤ (w147 30 0 11).toInt ∧ (w147 30 0 11).toInt ≤ (5 : Int) := hI_w147.1 30 0 11
              have : (1 : Int32).toInt = 1 := (by decide)
              exact loop205 2000 v135 x1_147 hI_v135 (by omega) (by omega) (by omega)
          · skip
            have ic125 := i_ne c125
            have : (0 : Int) ≤ (w147 30 0 11).toInt ∧ (w147 30 0 11).toInt ≤ (5 : Int) := hI_w147.1 30 0 11
            have : (1 : Int32).toInt = 1 := (by decide)
            refine ok_bind (k_X8_must w147 hI_w147 0 ) (fun v138 hr137 => ?_)
            have hr137 : IM v138 ∧ (Int32.toInt (v138 37 0 3) = Int32.toInt (w147 37 0 3)) ∧ (Int32.toInt (v138 37 0 4) = Int32.toInt (w147 37 0 4)) ∧ (Int32.toInt (w147 30 0 8) < 0 ∨ 0 ≤ Int32.toInt (v138 30 0 8)) ∧ (¬ Int32.toInt 0 = 0 ∨ 0 ≤ Int32.toInt (v138 30 0 8)) ∧ (Int32.toInt 0 = 0 ∨ (Int32.toInt (v138 30 0 11) = Int32.toInt (w147 30 0 11) ∧ Int32.toInt (v138 30 0 12) = Int32.toInt (w147 30 0 12))) := hr137
            obtain ⟨hI_v138, hr137⟩ := hr137
            have : ((v138 36 0 3).toInt = 0 ∧ (v138 36 0 4).toInt = 0) ∨ (0 < (v138 36 0 3).toInt ∧ 0 < (v138 36 0 4).toInt) := hI_v138.2.1
            have : (0 : Int) ≤ (w147 37 0 3).toInt ∧ (w147 37 0 3).toInt ≤ (6 : Int) := hI_w147.1 37 0 3
            have : (0 : Int) ≤ (w147 37 0 4).toInt ∧ (w147 37 0 4).toInt ≤ (4 : Int) := hI_w147.1 37 0 4
            have : (-1 : Int) ≤ (w147 30 0 8).toInt ∧ (w147 30 0 8).toInt ≤ (100 : Int) := hI_w147.1 30 0 8
            have : (0 : Int) ≤ (w147 30 0 11).toInt ∧ (w147 30 0 11).toInt ≤ (5 : Int) := hI_w147.1 30 0 11
            have : (0 : Int32).toInt = 0 := (by decide)
            exact loop205 2000 v138 x1_147 hI_v138 (by omega) (by omega) (by omega)
  have loop2 : ∀ (n2 : Nat) (w2 : Mm) (x1_2 : Int32), (IM w2) → ((0 : Int) ≤ Int32.toInt x1_2 ∧ Int32.toInt x1_2 ≤ (65 : Int)) → (65 - Int32.toInt x1_2 < (n2 : Int)) → ok (g_X8_gate_L2   n2 w2 x1_2) (fun z => IM z.2) := by
    intro n2
    induction n2 with
    | zero =>
      intro w2 x1_2 hI_w2 hv0_2 hm2
      exfalso
      omega
    | succ n2 ih2 =>
      intro w2 x1_2 hI_w2 hv0_2 hm2
      show ok (b_X8_gate_L2  (g_X8_gate_L2   n2)  w2 x1_2) _
      unfold b_X8_gate_L2
      try rw [tc_0]
      try rw [tc_1]
      try rw [tc_2]
      try rw [tc_3]
      have : ((w2 36 0 3).toInt = 0 ∧ (w2 36 0 4).toInt = 0) ∨ (0 < (w2 36 0 3).toInt ∧ 0 < (w2 36 0 4).toInt) := hI_w2.2.1
      refine ok_ite _ (fun c139 => ?_) (fun c139 => ?_)
      · skip
        have ic139 := i_le c139
        have : (65 : Int32).toInt = 65 := (by decide)
        refine ok_let (fun v140 ev140 => ?_)
        have hI_v140 : IM v140 := by
          rw [ev140]
          refine hI_w2.upo (by decide) ?_
          show (0 : Int) ≤ Int32.toInt (0 : Int32) ∧ Int32.toInt (0 : Int32) ≤ (100 : Int)
          have : (0 : Int32).toInt = 0 := (by decide)
          omega
        have := i_eq (show v140 30 0 6 = w2 30 0 6 by rw [ev140]; exact up3_j (by decide))
        have := i_eq (show v140 30 0 8 = w2 30 0 8 by rw [ev140]; exact up3_j (by decide))
        have := i_eq (show v140 30 0 9 = 0 by rw [ev140]; exact up3_s)
        have : (0 : Int32).toInt = 0 := (by decide)
        have := i_eq (show v140 30 0 11 = w2 30 0 11 by rw [ev140]; exact up3_j (by decide))
        have := i_eq (show v140 30 0 12 = w2 30 0 12 by rw [ev140]; exact up3_j (by decide))
        have := i_eq (show v140 30 0 17 = w2 30 0 17 by rw [ev140]; exact up3_j (by decide))
        have := i_eq (show v140 36 0 3 = w2 36 0 3 by rw [ev140]; exact up3_t (by decide))
        have := i_eq (show v140 37 0 0 = w2 37 0 0 by rw [ev140]; exact up3_t (by decide))
        have := i_eq (show v140 37 0 1 = w2 37 0 1 by rw [ev140]; exact up3_t (by decide))
        have := i_eq (show v140 37 0 2 = w2 37 0 2 by rw [ev140]; exact up3_t (by decide))
        have := i_eq (show v140 37 0 3 = w2 37 0 3 by rw [ev140]; exact up3_t (by decide))
        have := i_eq (show v140 37 0 4 = w2 37 0 4 by rw [ev140]; exact up3_t (by decide))
        have : ((v140 36 0 3).toInt = 0 ∧ (v140 36 0 4).toInt = 0) ∨ (0 < (v140 36 0 3).toInt ∧ 0 < (v140 36 0 4).toInt) := hI_v140.2.1
        refine ok_let (fun v141 ev141 => ?_)
        have hI_v141 : IM v141 := by
          rw [ev141]
          refine hI_v140.upo (by decide) ?_
          show (-1 : Int) ≤ Int32.toInt (-1 : Int32) ∧ Int32.toInt (-1 : Int32) ≤ (100 : Int)
          have : (-1 : Int32).toInt = -1 := (by decide)
          omega
        have := i_eq (show v141 30 0 6 = v140 30 0 6 by rw [ev141]; exact up3_j (by decide))
        have := i_eq (show v141 30 0 8 = ((-1)) by rw [ev141]; exact up3_s)
        have : (-1 : Int32).toInt = -1 := (by decide)
        have := i_eq (show v141 30 0 9 = v140 30 0 9 by rw [ev141]; exact up3_j (by decide))
        have := i_eq (show v141 30 0 11 = v140 30 0 11 by rw [ev141]; exact up3_j (by decide))
        have := i_eq (show v141 30 0 12 = v140 30 0 12 by rw [ev141]; exact up3_j (by decide))
        have := i_eq (show v141 30 0 17 = v140 30 0 17 by rw [ev141]; exact up3_j (by decide))
        have := i_eq (show v141 36 0 3 = v140 36 0 3 by rw [ev141]; exact up3_t (by decide))
        have := i_eq (show v141 37 0 0 = v140 37 0 0 by rw [ev141]; exact up3_t (by decide))
        have := i_eq (show v141 37 0 1 = v140 37 0 1 by rw [ev141]; exact up3_t (by decide))
        have := i_eq (show v141 37 0 2 = v140 37 0 2 by rw [ev141]; exact up3_t (by decide))
        have := i_eq (show v141 37 0 3 = v140 37 0 3 by rw [ev141]; exact up3_t (by decide))
        have := i_eq (show v141 37 0 4 = v140 37 0 4 by rw [ev141]; exact up3_t (by decide))
        have : ((v141 36 0 3).toInt = 0 ∧ (v141 36 0 4).toInt = 0) ∨ (0 < (v141 36 0 3).toInt ∧ 0 < (v141 36 0 4).toInt) := hI_v141.2.1
        refine ok_bind (k_X8_advances v141 hI_v141  ) (fun v144 hr143 => ?_)
        have hr143 : IM v144 ∧ (Int32.toInt (v144 37 0 3) = Int32.toInt (v141 37 0 3)) ∧ (Int32.toInt (v144 37 0 4) = Int32.toInt (v141 37 0 4)) ∧ (Int32.toInt (v144 30 0 8) = Int32.toInt (v141 30 0 8)) := hr143
        obtain ⟨hI_v144, hr143⟩ := hr143
        have : ((v144 36 0 3).toInt = 0 ∧ (v144 36 0 4).toInt = 0) ∨ (0 < (v144 36 0 3).toInt ∧ 0 < (v144 36 0 4).toInt) := hI_v144.2.1
        have : (0 : Int) ≤ (v141 37 0 3).toInt ∧ (v141 37 0 3).toInt ≤ (6 : Int) := hI_v141.1 37 0 3
        have : (0 : Int) ≤ (v141 37 0 4).toInt ∧ (v141 37 0 4).toInt ≤ (4 : Int) := hI_v141.1 37 0 4
        have : (-1 : Int) ≤ (v141 30 0 8).toInt ∧ (v141 30 0 8).toInt ≤ (100 : Int) := hI_v141.1 30 0 8
        refine ok_ite _ (fun c145 => ?_) (fun c145 => ?_)
        · skip
          have ic145 := i_eq c145
          have : (0 : Int) ≤ (v144 30 0 11).toInt ∧ (v144 30 0 11).toInt ≤ (5 : Int) := hI_v144.1 30 0 11
          have : (1 : Int32).toInt = 1 := (by decide)
          refine ok_ite _ (fun c146 => ?_) (fun c146 => ?_)
          · skip
            have ic146 := i_eq c146
            have : (113 : Int32).toInt = 113 := (by decide)
            refine ok_kb2 (k_X8_takes v144 hI_v144 1 1 ) (fun r148 v149 hr148 => ?_)
            have hr148 : IM v149 ∧ (Int32.toInt (v149 37 0 3) = Int32.toInt (v144 37 0 3)) ∧ (Int32.toInt (v149 37 0 4) = Int32.toInt (v144 37 0 4)) ∧ (Int32.toInt (v144 30 0 8) < 0 ∨ 0 ≤ Int32.toInt (v149 30 0 8)) ∧ (¬ Int32.toInt 1 = 0 ∨ 0 ≤ Int32.toInt (v149 30 0 8)) ∧ (Int32.toInt r148 = 0 ∨ (Int32.toInt r148 = Int32.toInt (v144 30 0 12) ∧ ¬ Int32.toInt 1 = 0)) := hr148
            obtain ⟨hI_v149, hr148⟩ := hr148
            have : ((v149 36 0 3).toInt = 0 ∧ (v149 36 0 4).toInt = 0) ∨ (0 < (v149 36 0 3).toInt ∧ 0 < (v149 36 0 4).toInt) := hI_v149.2.1
            have : (0 : Int) ≤ (v144 37 0 3).toInt ∧ (v144 37 0 3).toInt ≤ (6 : Int) := hI_v144.1 37 0 3
            have : (0 : Int) ≤ (v144 37 0 4).toInt ∧ (v144 37 0 4).toInt ≤ (4 : Int) := hI_v144.1 37 0 4
            have : (-1 : Int) ≤ (v144 30 0 8).toInt ∧ (v144 30 0 8).toInt ≤ (100 : Int) := hI_v144.1 30 0 8
            have : (1 : Int32).toInt = 1 := (by decide)
            refine ok_kb2 (k_X8_figure v149 hI_v149 0 9 (by have : (0 : Int32).toInt = 0 := (by decide); omega) (by have : (9 : Int32).toInt = 9 := (by decide); omega)) (fun r151 v152 hr151 => ?_)
            have hr151 : IM v152 ∧ (0 : Int) ≤ Int32.toInt r151 ∧ Int32.toInt r151 ≤ (9 : Int) ∧ (Int32.toInt (v152 37 0 3) = Int32.toInt (v149 37 0 3)) ∧ (Int32.toInt (v152 37 0 4) = Int32.toInt (v149 37 0 4)) ∧ (Int32.toInt (v149 30 0 8) < 0 ∨ 0 ≤ Int32.toInt (v152 30 0 8)) ∧ (Int32.toInt r151 ≤ Int32.toInt 9) := hr151
            obtain ⟨hI_v152, hr151⟩ := hr151
            have : ((v152 36 0 3).toInt = 0 ∧ (v152 36 0 4).toInt = 0) ∨ (0 < (v152 36 0 3).toInt ∧ 0 < (v152 36 0 4).toInt) := hI_v152.2.1
            have : (0 : Int) ≤ (v149 37 0 3).toInt ∧ (v149 37 0 3).toInt ≤ (6 : Int) := hI_v149.1 37 0 3
            have : (0 : Int) ≤ (v149 37 0 4).toInt ∧ (v149 37 0 4).toInt ≤ (4 : Int) := hI_v149.1 37 0 4
            have : (-1 : Int) ≤ (v149 30 0 8).toInt ∧ (v149 30 0 8).toInt ≤ (100 : Int) := hI_v149.1 30 0 8
            have : (0 : Int32).toInt = 0 := (by decide)
            have : (9 : Int32).toInt = 9 := (by decide)
            refine ok_let (fun v153 ev153 => ?_)
            have hI_v153 : IM v153 := by
              rw [ev153]
              refine hI_v152.upo (by decide) ?_
              show (0 : Int) ≤ Int32.toInt r151 ∧ Int32.toInt r151 ≤ (9 : Int)
              omega
            have := i_eq (show v153 30 0 6 = v152 30 0 6 by rw [ev153]; exact up3_t (by decide))
            have := i_eq (show v153 30 0 8 = v152 30 0 8 by rw [ev153]; exact up3_t (by decide))
            have := i_eq (show v153 30 0 9 = v152 30 0 9 by rw [ev153]; exact up3_t (by decide))
            have := i_eq (show v153 30 0 11 = v152 30 0 11 by rw [ev153]; exact up3_t (by decide))
            have := i_eq (show v153 30 0 12 = v152 30 0 12 by rw [ev153]; exact up3_t (by decide))
            have := i_eq (show v153 30 0 17 = v152 30 0 17 by rw [ev153]; exact up3_t (by decide))
            have := i_eq (show v153 36 0 3 = v152 36 0 3 by rw [ev153]; exact up3_t (by decide))
            have := i_eq (show v153 37 0 0 = r151 by rw [ev153]; exact up3_s)
            have := i_eq (show v153 37 0 1 = v152 37 0 1 by rw [ev153]; exact up3_j (by decide))
            have := i_eq (show v153 37 0 2 = v152 37 0 2 by rw [ev153]; exact up3_j (by decide))
            have := i_eq (show v153 37 0 3 = v152 37 0 3 by rw [ev153]; exact up3_j (by decide))
            have := i_eq (show v153 37 0 4 = v152 37 0 4 by rw [ev153]; exact up3_j (by decide))
            have : ((v153 36 0 3).toInt = 0 ∧ (v153 36 0 4).toInt = 0) ∨ (0 < (v153 36 0 3).toInt ∧ 0 < (v153 36 0 4).toInt) := hI_v153.2.1
            refine ok_kb2 (k_X8_follows v153 hI_v153 0 9 (by have : (0 : Int32).toInt = 0 := (by decide); omega) (by have : (9 : Int32).toInt = 9 := (by decide); omega)) (fun r155 v156 hr155 => ?_)
            have hr155 : IM v156 ∧ (0 : Int) ≤ Int32.toInt r155 ∧ Int32.toInt r155 ≤ (9 : Int) ∧ (Int32.toInt (v156 37 0 3) = Int32.toInt (v153 37 0 3)) ∧ (Int32.toInt (v156 37 0 4) = Int32.toInt (v153 37 0 4)) ∧ (Int32.toInt (v153 30 0 8) < 0 ∨ 0 ≤ Int32.toInt (v156 30 0 8)) ∧ (Int32.toInt r155 ≤ Int32.toInt 9) := hr155
            obtain ⟨hI_v156, hr155⟩ := hr155
            have : ((v156 36 0 3).toInt = 0 ∧ (v156 36 0 4).toInt = 0) ∨ (0 < (v156 36 0 3).toInt ∧ 0 < (v156 36 0 4).toInt) := hI_v156.2.1
            have : (0 : Int) ≤ (v153 37 0 3).toInt ∧ (v153 37 0 3).toInt ≤ (6 : Int) := hI_v153.1 37 0 3
            have : (0 : Int) ≤ (v153 37 0 4).toInt ∧ (v153 37 0 4).toInt ≤ (4 : Int) := hI_v153.1 37 0 4
            have : (-1 : Int) ≤ (v153 30 0 8).toInt ∧ (v153 30 0 8).toInt ≤ (100 : Int) := hI_v153.1 30 0 8
            have : (0 : Int32).toInt = 0 := (by decide)
            have : (9 : Int32).toInt = 9 := (by decide)
            refine ok_let (fun v157 ev157 => ?_)
            have hI_v157 : IM v157 := by
              rw [ev157]
              refine hI_v156.upo (by decide) ?_
              show (0 : Int) ≤ Int32.toInt r155 ∧ Int32.toInt r155 ≤ (9 : Int)
              omega
            have := i_eq (show v157 30 0 6 = v156 30 0 6 by rw [ev157]; exact up3_t (by decide))
            have := i_eq (show v157 30 0 8 = v156 30 0 8 by rw [ev157]; exact up3_t (by decide))
            have := i_eq (show v157 30 0 9 = v156 30 0 9 by rw [ev157]; exact up3_t (by decide))
            have := i_eq (show v157 30 0 11 = v156 30 0 11 by rw [ev157]; exact up3_t (by decide))
            have := i_eq (show v157 30 0 12 = v156 30 0 12 by rw [ev157]; exact up3_t (by decide))
            have := i_eq (show v157 30 0 17 = v156 30 0 17 by rw [ev157]; exact up3_t (by decide))
            have := i_eq (show v157 36 0 3 = v156 36 0 3 by rw [ev157]; exact up3_t (by decide))
            have := i_eq (show v157 37 0 0 = v156 37 0 0 by rw [ev157]; exact up3_j (by decide))
            have := i_eq (show v157 37 0 1 = r155 by rw [ev157]; exact up3_s)
            have := i_eq (show v157 37 0 2 = v156 37 0 2 by rw [ev157]; exact up3_j (by decide))
            have := i_eq (show v157 37 0 3 = v156 37 0 3 by rw [ev157]; exact up3_j (by decide))
            have := i_eq (show v157 37 0 4 = v156 37 0 4 by rw [ev157]; exact up3_j (by decide))
            have : ((v157 36 0 3).toInt = 0 ∧ (v157 36 0 4).toInt = 0) ∨ (0 < (v157 36 0 3).toInt ∧ 0 < (v157 36 0 4).toInt) := hI_v157.2.1
            refine ok_kb2 (k_X8_follows v157 hI_v157 0 6 (by have : (0 : Int32).toInt = 0 := (by decide); omega) (by have : (6 : Int32).toInt = 6 := (by decide); omega)) (fun r159 v160 hr159 => ?_)
            have hr159 : IM v160 ∧ (0 : Int) ≤ Int32.toInt r159 ∧ Int32.toInt r159 ≤ (9 : Int) ∧ (Int32.toInt (v160 37 0 3) = Int32.toInt (v157 37 0 3)) ∧ (Int32.toInt (v160 37 0 4) = Int32.toInt (v157 37 0 4)) ∧ (Int32.toInt (v157 30 0 8) < 0 ∨ 0 ≤ Int32.toInt (v160 30 0 8)) ∧ (Int32.toInt r159 ≤ Int32.toInt 6) := hr159
            obtain ⟨hI_v160, hr159⟩ := hr159
            have : ((v160 36 0 3).toInt = 0 ∧ (v160 36 0 4).toInt = 0) ∨ (0 < (v160 36 0 3).toInt ∧ 0 < (v160 36 0 4).toInt) := hI_v160.2.1
            have : (0 : Int) ≤ (v157 37 0 3).toInt ∧ (v157 37 0 3).toInt ≤ (6 : Int) := hI_v157.1 37 0 3
            have : (0 : Int) ≤ (v157 37 0 4).toInt ∧ (v157 37 0 4).toInt ≤ (4 : Int) := hI_v157.1 37 0 4
            have : (-1 : Int) ≤ (v157 30 0 8).toInt ∧ (v157 30 0 8).toInt ≤ (100 : Int) := hI_v157.1 30 0 8
            have : (0 : Int32).toInt = 0 := (by decide)
            have : (6 : Int32).toInt = 6 := (by decide)
            refine ok_let (fun v161 ev161 => ?_)
            have hI_v161 : IM v161 := by
              rw [ev161]
              refine hI_v160.upo (by decide) ?_
              show (0 : Int) ≤ Int32.toInt r159 ∧ Int32.toInt r159 ≤ (6 : Int)
              omega
            have := i_eq (show v161 30 0 6 = v160 30 0 6 by rw [ev161]; exact up3_t (by decide))
            have := i_eq (show v161 30 0 8 = v160 30 0 8 by rw [ev161]; exact up3_t (by decide))
            have := i_eq (show v161 30 0 9 = v160 30 0 9 by rw [ev161]; exact up3_t (by decide))
            have := i_eq (show v161 30 0 11 = v160 30 0 11 by rw [ev161]; exact up3_t (by decide))
            have := i_eq (show v161 30 0 12 = v160 30 0 12 by rw [ev161]; exact up3_t (by decide))
            have := i_eq (show v161 30 0 17 = v160 30 0 17 by rw [ev161]; exact up3_t (by decide))
            have := i_eq (show v161 36 0 3 = v160 36 0 3 by rw [ev161]; exact up3_t (by decide))
            have := i_eq (show v161 37 0 0 = v160 37 0 0 by rw [ev161]; exact up3_j (by decide))
            have := i_eq (show v161 37 0 1 = v160 37 0 1 by rw [ev161]; exact up3_j (by decide))
            have := i_eq (show v161 37 0 2 = r159 by rw [ev161]; exact up3_s)
            have := i_eq (show v161 37 0 3 = v160 37 0 3 by rw [ev161]; exact up3_j (by decide))
            have := i_eq (show v161 37 0 4 = v160 37 0 4 by rw [ev161]; exact up3_j (by decide))
            have : ((v161 36 0 3).toInt = 0 ∧ (v161 36 0 4).toInt = 0) ∨ (0 < (v161 36 0 3).toInt ∧ 0 < (v161 36 0 4).toInt) := hI_v161.2.1
            refine ok_ite _ (fun c162 => ?_) (fun c162 => ?_)
            · skip
              have ic162 := i_eq c162
              have : (0 : Int) ≤ (v161 30 0 11).toInt ∧ (v161 30 0 11).toInt ≤ (5 : Int) := hI_v161.1 30 0 11
              have : (4 : Int32).toInt = 4 := (by decide)
              refine ok_kb2 (k_X8_takes v161 hI_v161 1 1 ) (fun r164 v165 hr164 => ?_)
              have hr164 : IM v165 ∧ (Int32.toInt (v165 37 0 3) = Int32.toInt (v161 37 0 3)) ∧ (Int32.toInt (v165 37 0 4) = Int32.toInt (v161 37 0 4)) ∧ (Int32.toInt (v161 30 0 8) < 0 ∨ 0 ≤ Int32.toInt (v165 30 0 8)) ∧ (¬ Int32.toInt 1 = 0 ∨ 0 ≤ Int32.toInt (v165 30 0 8)) ∧ (Int32.toInt r164 = 0 ∨ (Int32.toInt r164 = Int32.toInt (v161 30 0 12) ∧ ¬ Int32.toInt 1 = 0)) := hr164
              obtain ⟨hI_v165, hr164⟩ := hr164
              have : ((v165 36 0 3).toInt = 0 ∧ (v165 36 0 4).toInt = 0) ∨ (0 < (v165 36 0 3).toInt ∧ 0 < (v165 36 0 4).toInt) := hI_v165.2.1
              have : (0 : Int) ≤ (v161 37 0 3).toInt ∧ (v161 37 0 3).toInt ≤ (6 : Int) := hI_v161.1 37 0 3
              have : (0 : Int) ≤ (v161 37 0 4).toInt ∧ (v161 37 0 4).toInt ≤ (4 : Int) := hI_v161.1 37 0 4
              have : (-1 : Int) ≤ (v161 30 0 8).toInt ∧ (v161 30 0 8).toInt ≤ (100 : Int) := hI_v161.1 30 0 8
              have : (1 : Int32).toInt = 1 := (by decide)
              refine ok_ite _ (fun c166 => ?_) (fun c166 => ?_)
              · skip
                have ic166 := i_eq c166
                have : (0 : Int) ≤ (v165 30 0 11).toInt ∧ (v165 30 0 11).toInt ≤ (5 : Int) := hI_v165.1 30 0 11
                have : (1 : Int32).toInt = 1 := (by decide)
                refine ok_ite _ (fun c167 => ?_) (fun c167 => ?_)
                · skip
                  have ic167 := i_eq c167
                  have : (119 : Int32).toInt = 119 := (by decide)
                  refine ok_bind (k_X8_must v165 hI_v165 1 ) (fun v170 hr169 => ?_)
                  have hr169 : IM v170 ∧ (Int32.toInt (v170 37 0 3) = Int32.toInt (v165 37 0 3)) ∧ (Int32.toInt (v170 37 0 4) = Int32.toInt (v165 37 0 4)) ∧ (Int32.toInt (v165 30 0 8) < 0 ∨ 0 ≤ Int32.toInt (v170 30 0 8)) ∧ (¬ Int32.toInt 1 = 0 ∨ 0 ≤ Int32.toInt (v170 30 0 8)) ∧ (Int32.toInt 1 = 0 ∨ (Int32.toInt (v170 30 0 11) = Int32.toInt (v165 30 0 11) ∧ Int32.toInt (v170 30 0 12) = Int32.toInt (v165 30 0 12))) := hr169
                  obtain ⟨hI_v170, hr169⟩ := hr169
                  have : ((v170 36 0 3).toInt = 0 ∧ (v170 36 0 4).toInt = 0) ∨ (0 < (v170 36 0 3).toInt ∧ 0 < (v170 36 0 4).toInt) := hI_v170.2.1
                  have : (0 : Int) ≤ (v165 37 0 3).toInt ∧ (v165 37 0 3).toInt ≤ (6 : Int) := hI_v165.1 37 0 3
                  have : (0 : Int) ≤ (v165 37 0 4).toInt ∧ (v165 37 0 4).toInt ≤ (4 : Int) := hI_v165.1 37 0 4
                  have : (-1 : Int) ≤ (v165 30 0 8).toInt ∧ (v165 30 0 8).toInt ≤ (100 : Int) := hI_v165.1 30 0 8
                  have : (0 : Int) ≤ (v165 30 0 11).toInt ∧ (v165 30 0 11).toInt ≤ (5 : Int) := hI_v165.1 30 0 11
                  have : (1 : Int32).toInt = 1 := (by decide)
                  exact loop147 2000 v170 x1_2 hI_v170 (by omega) (by omega)
                · skip
                  have ic167 := i_ne c167
                  have : (119 : Int32).toInt = 119 := (by decide)
                  refine ok_bind (k_X8_must v165 hI_v165 0 ) (fun v173 hr172 => ?_)
                  have hr172 : IM v173 ∧ (Int32.toInt (v173 37 0 3) = Int32.toInt (v165 37 0 3)) ∧ (Int32.toInt (v173 37 0 4) = Int32.toInt (v165 37 0 4)) ∧ (Int32.toInt (v165 30 0 8) < 0 ∨ 0 ≤ Int32.toInt (v173 30 0 8)) ∧ (¬ Int32.toInt 0 = 0 ∨ 0 ≤ Int32.toInt (v173 30 0 8)) ∧ (Int32.toInt 0 = 0 ∨ (Int32.toInt (v173 30 0 11) = Int32.toInt (v165 30 0 11) ∧ Int32.toInt (v173 30 0 12) = Int32.toInt (v165 30 0 12))) := hr172
                  obtain ⟨hI_v173, hr172⟩ := hr172
                  have : ((v173 36 0 3).toInt = 0 ∧ (v173 36 0 4).toInt = 0) ∨ (0 < (v173 36 0 3).toInt ∧ 0 < (v173 36 0 4).toInt) := hI_v173.2.1
                  have : (0 : Int) ≤ (v165 37 0 3).toInt ∧ (v165 37 0 3).toInt ≤ (6 : Int) := hI_v165.1 37 0 3
                  have : (0 : Int) ≤ (v165 37 0 4).toInt ∧ (v165 37 0 4).toInt ≤ (4 : Int) := hI_v165.1 37 0 4
                  have : (-1 : Int) ≤ (v165 30 0 8).toInt ∧ (v165 30 0 8).toInt ≤ (100 : Int) := hI_v165.1 30 0 8
                  have : (0 : Int) ≤ (v165 30 0 11).toInt ∧ (v165 30 0 11).toInt ≤ (5 : Int) := hI_v165.1 30 0 11
                  have : (0 : Int32).toInt = 0 := (by decide)
                  exact loop147 2000 v173 x1_2 hI_v173 (by omega) (by omega)
              · skip
                have ic166 := i_ne c166
                have : (0 : Int) ≤ (v165 30 0 11).toInt ∧ (v165 30 0 11).toInt ≤ (5 : Int) := hI_v165.1 30 0 11
                have : (1 : Int32).toInt = 1 := (by decide)
                refine ok_bind (k_X8_must v165 hI_v165 0 ) (fun v176 hr175 => ?_)
                have hr175 : IM v176 ∧ (Int32.toInt (v176 37 0 3) = Int32.toInt (v165 37 0 3)) ∧ (Int32.toInt (v176 37 0 4) = Int32.toInt (v165 37 0 4)) ∧ (Int32.toInt (v165 30 0 8) < 0 ∨ 0 ≤ Int32.toInt (v176 30 0 8)) ∧ (¬ Int32.toInt 0 = 0 ∨ 0 ≤ Int32.toInt (v176 30 0 8)) ∧ (Int32.toInt 0 = 0 ∨ (Int32.toInt (v176 30 0 11) = Int32.toInt (v165 30 0 11) ∧ Int32.toInt (v176 30 0 12) = Int32.toInt (v165 30 0 12))) := hr175
                obtain ⟨hI_v176, hr175⟩ := hr175
                have : ((v176 36 0 3).toInt = 0 ∧ (v176 36 0 4).toInt = 0) ∨ (0 < (v176 36 0 3).toInt ∧ 0 < (v176 36 0 4).toInt) := hI_v176.2.1
                have : (0 : Int) ≤ (v165 37 0 3).toInt ∧ (v165 37 0 3).toInt ≤ (6 : Int) := hI_v165.1 37 0 3
                have : (0 : Int) ≤ (v165 37 0 4).toInt ∧ (v165 37 0 4).toInt ≤ (4 : Int) := hI_v165.1 37 0 4
                have : (-1 : Int) ≤ (v165 30 0 8).toInt ∧ (v165 30 0 8).toInt ≤ (100 : Int) := hI_v165.1 30 0 8
                have : (0 : Int) ≤ (v165 30 0 11).toInt ∧ (v165 30 0 11).toInt ≤ (5 : Int) := hI_v165.1 30 0 11
                have : (0 : Int32).toInt = 0 := (by decide)
                exact loop147 2000 v176 x1_2 hI_v176 (by omega) (by omega)
            · skip
              have ic162 := i_ne c162
              have : (0 : Int) ≤ (v161 30 0 11).toInt ∧ (v161 30 0 11).toInt ≤ (5 : Int) := hI_v161.1 30 0 11
              have : (4 : Int32).toInt = 4 := (by decide)
              refine ok_kb2 (k_X8_takes v161 hI_v161 0 1 ) (fun r178 v179 hr178 => ?_)
              have hr178 : IM v179 ∧ (Int32.toInt (v179 37 0 3) = Int32.toInt (v161 37 0 3)) ∧ (Int32.toInt (v179 37 0 4) = Int32.toInt (v161 37 0 4)) ∧ (Int32.toInt (v161 30 0 8) < 0 ∨ 0 ≤ Int32.toInt (v179 30 0 8)) ∧ (¬ Int32.toInt 0 = 0 ∨ 0 ≤ Int32.toInt (v179 30 0 8)) ∧ (Int32.toInt r178 = 0 ∨ (Int32.toInt r178 = Int32.toInt (v161 30 0 12) ∧ ¬ Int32.toInt 0 = 0)) := hr178
              obtain ⟨hI_v179, hr178⟩ := hr178
              have : ((v179 36 0 3).toInt = 0 ∧ (v179 36 0 4).toInt = 0) ∨ (0 < (v179 36 0 3).toInt ∧ 0 < (v179 36 0 4).toInt) := hI_v179.2.1
              have : (0 : Int) ≤ (v161 37 0 3).toInt ∧ (v161 37 0 3).toInt ≤ (6 : Int) := hI_v161.1 37 0 3
              have : (0 : Int) ≤ (v161 37 0 4).toInt ∧ (v161 37 0 4).toInt ≤ (4 : Int) := hI_v161.1 37 0 4
              have : (-1 : Int) ≤ (v161 30 0 8).toInt ∧ (v161 30 0 8).toInt ≤ (100 : Int) := hI_v161.1 30 0 8
              have : (0 : Int32).toInt = 0 := (by decide)
              have : (1 : Int32).toInt = 1 := (by decide)
              refine ok_ite _ (fun c180 => ?_) (fun c180 => ?_)
              · skip
                have ic180 := i_eq c180
                have : (0 : Int) ≤ (v179 30 0 11).toInt ∧ (v179 30 0 11).toInt ≤ (5 : Int) := hI_v179.1 30 0 11
                have : (1 : Int32).toInt = 1 := (by decide)
                refine ok_ite _ (fun c181 => ?_) (fun c181 => ?_)
                · skip
                  have ic181 := i_eq c181
                  have : (119 : Int32).toInt = 119 := (by decide)
                  refine ok_bind (k_X8_must v179 hI_v179 1 ) (fun v184 hr183 => ?_)
                  have hr183 : IM v184 ∧ (Int32.toInt (v184 37 0 3) = Int32.toInt (v179 37 0 3)) ∧ (Int32.toInt (v184 37 0 4) = Int32.toInt (v179 37 0 4)) ∧ (Int32.toInt (v179 30 0 8) < 0 ∨ 0 ≤ Int32.toInt (v184 30 0 8)) ∧ (¬ Int32.toInt 1 = 0 ∨ 0 ≤ Int32.toInt (v184 30 0 8)) ∧ (Int32.toInt 1 = 0 ∨ (Int32.toInt (v184 30 0 11) = Int32.toInt (v179 30 0 11) ∧ Int32.toInt (v184 30 0 12) = Int32.toInt (v179 30 0 12))) := hr183
                  obtain ⟨hI_v184, hr183⟩ := hr183
                  have : ((v184 36 0 3).toInt = 0 ∧ (v184 36 0 4).toInt = 0) ∨ (0 < (v184 36 0 3).toInt ∧ 0 < (v184 36 0 4).toInt) := hI_v184.2.1
                  have : (0 : Int) ≤ (v179 37 0 3).toInt ∧ (v179 37 0 3).toInt ≤ (6 : Int) := hI_v179.1 37 0 3
                  have : (0 : Int) ≤ (v179 37 0 4).toInt ∧ (v179 37 0 4).toInt ≤ (4 : Int) := hI_v179.1 37 0 4
                  have : (-1 : Int) ≤ (v179 30 0 8).toInt ∧ (v179 30 0 8).toInt ≤ (100 : Int) := hI_v179.1 30 0 8
                  have : (0 : Int) ≤ (v179 30 0 11).toInt ∧ (v179 30 0 11).toInt ≤ (5 : Int) := hI_v179.1 30 0 11
                  have : (1 : Int32).toInt = 1 := (by decide)
                  exact loop147 2000 v184 x1_2 hI_v184 (by omega) (by omega)
                · skip
                  have ic181 := i_ne c181
                  have : (119 : Int32).toInt = 119 := (by decide)
                  refine ok_bind (k_X8_must v179 hI_v179 0 ) (fun v187 hr186 => ?_)
                  have hr186 : IM v187 ∧ (Int32.toInt (v187 37 0 3) = Int32.toInt (v179 37 0 3)) ∧ (Int32.toInt (v187 37 0 4) = Int32.toInt (v179 37 0 4)) ∧ (Int32.toInt (v179 30 0 8) < 0 ∨ 0 ≤ Int32.toInt (v187 30 0 8)) ∧ (¬ Int32.toInt 0 = 0 ∨ 0 ≤ Int32.toInt (v187 30 0 8)) ∧ (Int32.toInt 0 = 0 ∨ (Int32.toInt (v187 30 0 11) = Int32.toInt (v179 30 0 11) ∧ Int32.toInt (v187 30 0 12) = Int32.toInt (v179 30 0 12))) := hr186
                  obtain ⟨hI_v187, hr186⟩ := hr186
                  have : ((v187 36 0 3).toInt = 0 ∧ (v187 36 0 4).toInt = 0) ∨ (0 < (v187 36 0 3).toInt ∧ 0 < (v187 36 0 4).toInt) := hI_v187.2.1
                  have : (0 : Int) ≤ (v179 37 0 3).toInt ∧ (v179 37 0 3).toInt ≤ (6 : Int) := hI_v179.1 37 0 3
                  have : (0 : Int) ≤ (v179 37 0 4).toInt ∧ (v179 37 0 4).toInt ≤ (4 : Int) := hI_v179.1 37 0 4
                  have : (-1 : Int) ≤ (v179 30 0 8).toInt ∧ (v179 30 0 8).toInt ≤ (100 : Int) := hI_v179.1 30 0 8
                  have : (0 : Int) ≤ (v179 30 0 11).toInt ∧ (v179 30 0 11).toInt ≤ (5 : Int) := hI_v179.1 30 0 11
                  have : (0 : Int32).toInt = 0 := (by decide)
                  exact loop147 2000 v187 x1_2 hI_v187 (by omega) (by omega)
              · skip
                have ic180 := i_ne c180
                have : (0 : Int) ≤ (v179 30 0 11).toInt ∧ (v179 30 0 11).toInt ≤ (5 : Int) := hI_v179.1 30 0 11
                have : (1 : Int32).toInt = 1 := (by decide)
                refine ok_bind (k_X8_must v179 hI_v179 0 ) (fun v190 hr189 => ?_)
                have hr189 : IM v190 ∧ (Int32.toInt (v190 37 0 3) = Int32.toInt (v179 37 0 3)) ∧ (Int32.toInt (v190 37 0 4) = Int32.toInt (v179 37 0 4)) ∧ (Int32.toInt (v179 30 0 8) < 0 ∨ 0 ≤ Int32.toInt (v190 30 0 8)) ∧ (¬ Int32.toInt 0 = 0 ∨ 0 ≤ Int32.toInt (v190 30 0 8)) ∧ (Int32.toInt 0 = 0 ∨ (Int32.toInt (v190 30 0 11) = Int32.toInt (v179 30 0 11) ∧ Int32.toInt (v190 30 0 12) = Int32.toInt (v179 30 0 12))) := hr189
                obtain ⟨hI_v190, hr189⟩ := hr189
                have : ((v190 36 0 3).toInt = 0 ∧ (v190 36 0 4).toInt = 0) ∨ (0 < (v190 36 0 3).toInt ∧ 0 < (v190 36 0 4).toInt) := hI_v190.2.1
                have : (0 : Int) ≤ (v179 37 0 3).toInt ∧ (v179 37 0 3).toInt ≤ (6 : Int) := hI_v179.1 37 0 3
                have : (0 : Int) ≤ (v179 37 0 4).toInt ∧ (v179 37 0 4).toInt ≤ (4 : Int) := hI_v179.1 37 0 4
                have : (-1 : Int) ≤ (v179 30 0 8).toInt ∧ (v179 30 0 8).toInt ≤ (100 : Int) := hI_v179.1 30 0 8
                have : (0 : Int) ≤ (v179 30 0 11).toInt ∧ (v179 30 0 11).toInt ≤ (5 : Int) := hI_v179.1 30 0 11
                have : (0 : Int32).toInt = 0 := (by decide)
                exact loop147 2000 v190 x1_2 hI_v190 (by omega) (by omega)
          · skip
            have ic146 := i_ne c146
            have : (113 : Int32).toInt = 113 := (by decide)
            refine ok_kb2 (k_X8_takes v144 hI_v144 0 1 ) (fun r192 v193 hr192 => ?_)
            have hr192 : IM v193 ∧ (Int32.toInt (v193 37 0 3) = Int32.toInt (v144 37 0 3)) ∧ (Int32.toInt (v193 37 0 4) = Int32.toInt (v144 37 0 4)) ∧ (Int32.toInt (v144 30 0 8) < 0 ∨ 0 ≤ Int32.toInt (v193 30 0 8)) ∧ (¬ Int32.toInt 0 = 0 ∨ 0 ≤ Int32.toInt (v193 30 0 8)) ∧ (Int32.toInt r192 = 0 ∨ (Int32.toInt r192 = Int32.toInt (v144 30 0 12) ∧ ¬ Int32.toInt 0 = 0)) := hr192
            obtain ⟨hI_v193, hr192⟩ := hr192
            have : ((v193 36 0 3).toInt = 0 ∧ (v193 36 0 4).toInt = 0) ∨ (0 < (v193 36 0 3).toInt ∧ 0 < (v193 36 0 4).toInt) := hI_v193.2.1
            have : (0 : Int) ≤ (v144 37 0 3).toInt ∧ (v144 37 0 3).toInt ≤ (6 : Int) := hI_v144.1 37 0 3
            have : (0 : Int) ≤ (v144 37 0 4).toInt ∧ (v144 37 0 4).toInt ≤ (4 : Int) := hI_v144.1 37 0 4
            have : (-1 : Int) ≤ (v144 30 0 8).toInt ∧ (v144 30 0 8).toInt ≤ (100 : Int) := hI_v144.1 30 0 8
            have : (0 : Int32).toInt = 0 := (by decide)
            have : (1 : Int32).toInt = 1 := (by decide)
            refine ok_kb2 (k_X8_figure v193 hI_v193 0 9 (by have : (0 : Int32).toInt = 0 := (by decide); omega) (by have : (9 : Int32).toInt = 9 := (by decide); omega)) (fun r195 v196 hr195 => ?_)
            have hr195 : IM v196 ∧ (0 : Int) ≤ Int32.toInt r195 ∧ Int32.toInt r195 ≤ (9 : Int) ∧ (Int32.toInt (v196 37 0 3) = Int32.toInt (v193 37 0 3)) ∧ (Int32.toInt (v196 37 0 4) = Int32.toInt (v193 37 0 4)) ∧ (Int32.toInt (v193 30 0 8) < 0 ∨ 0 ≤ Int32.toInt (v196 30 0 8)) ∧ (Int32.toInt r195 ≤ Int32.toInt 9) := hr195
            obtain ⟨hI_v196, hr195⟩ := hr195
            have : ((v196 36 0 3).toInt = 0 ∧ (v196 36 0 4).toInt = 0) ∨ (0 < (v196 36 0 3).toInt ∧ 0 < (v196 36 0 4).toInt) := hI_v196.2.1
            have : (0 : Int) ≤ (v193 37 0 3).toInt ∧ (v193 37 0 3).toInt ≤ (6 : Int) := hI_v193.1 37 0 3
            have : (0 : Int) ≤ (v193 37 0 4).toInt ∧ (v193 37 0 4).toInt ≤ (4 : Int) := hI_v193.1 37 0 4
            have : (-1 : Int) ≤ (v193 30 0 8).toInt ∧ (v193 30 0 8).toInt ≤ (100 : Int) := hI_v193.1 30 0 8
            have : (0 : Int32).toInt = 0 := (by decide)
            have : (9 : Int32).toInt = 9 := (by decide)
            refine ok_let (fun v197 ev197 => ?_)
            have hI_v197 : IM v197 := by
              rw [ev197]
              refine hI_v196.upo (by decide) ?_
              show (0 : Int) ≤ Int32.toInt r195 ∧ Int32.toInt r195 ≤ (9 : Int)
              omega
            have := i_eq (show v197 30 0 6 = v196 30 0 6 by rw [ev197]; exact up3_t (by decide))
            have := i_eq (show v197 30 0 8 = v196 30 0 8 by rw [ev197]; exact up3_t (by decide))
            have := i_eq (show v197 30 0 9 = v196 30 0 9 by rw [ev197]; exact up3_t (by decide))
            have := i_eq (show v197 30 0 11 = v196 30 0 11 by rw [ev197]; exact up3_t (by decide))
            have := i_eq (show v197 30 0 12 = v196 30 0 12 by rw [ev197]; exact up3_t (by decide))
            have := i_eq (show v197 30 0 17 = v196 30 0 17 by rw [ev197]; exact up3_t (by decide))
            have := i_eq (show v197 36 0 3 = v196 36 0 3 by rw [ev197]; exact up3_t (by decide))
            have := i_eq (show v197 37 0 0 = r195 by rw [ev197]; exact up3_s)
            have := i_eq (show v197 37 0 1 = v196 37 0 1 by rw [ev197]; exact up3_j (by decide))
            have := i_eq (show v197 37 0 2 = v196 37 0 2 by rw [ev197]; exact up3_j (by decide))
            have := i_eq (show v197 37 0 3 = v196 37 0 3 by rw [ev197]; exact up3_j (by decide))
            have := i_eq (show v197 37 0 4 = v196 37 0 4 by rw [ev197]; exact up3_j (by decide))
            have : ((v197 36 0 3).toInt = 0 ∧ (v197 36 0 4).toInt = 0) ∨ (0 < (v197 36 0 3).toInt ∧ 0 < (v197 36 0 4).toInt) := hI_v197.2.1
            refine ok_kb2 (k_X8_follows v197 hI_v197 0 9 (by have : (0 : Int32).toInt = 0 := (by decide); omega) (by have : (9 : Int32).toInt = 9 := (by decide); omega)) (fun r199 v200 hr199 => ?_)
            have hr199 : IM v200 ∧ (0 : Int) ≤ Int32.toInt r199 ∧ Int32.toInt r199 ≤ (9 : Int) ∧ (Int32.toInt (v200 37 0 3) = Int32.toInt (v197 37 0 3)) ∧ (Int32.toInt (v200 37 0 4) = Int32.toInt (v197 37 0 4)) ∧ (Int32.toInt (v197 30 0 8) < 0 ∨ 0 ≤ Int32.toInt (v200 30 0 8)) ∧ (Int32.toInt r199 ≤ Int32.toInt 9) := hr199
            obtain ⟨hI_v200, hr199⟩ := hr199
            have : ((v200 36 0 3).toInt = 0 ∧ (v200 36 0 4).toInt = 0) ∨ (0 < (v200 36 0 3).toInt ∧ 0 < (v200 36 0 4).toInt) := hI_v200.2.1
            have : (0 : Int) ≤ (v197 37 0 3).toInt ∧ (v197 37 0 3).toInt ≤ (6 : Int) := hI_v197.1 37 0 3
            have : (0 : Int) ≤ (v197 37 0 4).toInt ∧ (v197 37 0 4).toInt ≤ (4 : Int) := hI_v197.1 37 0 4
            have : (-1 : Int) ≤ (v197 30 0 8).toInt ∧ (v197 30 0 8).toInt ≤ (100 : Int) := hI_v197.1 30 0 8
            have : (0 : Int32).toInt = 0 := (by decide)
            have : (9 : Int32).toInt = 9 := (by decide)
            refine ok_let (fun v201 ev201 => ?_)
            have hI_v201 : IM v201 := by
              rw [ev201]
              refine hI_v200.upo (by decide) ?_
              show (0 : Int) ≤ Int32.toInt r199 ∧ Int32.toInt r199 ≤ (9 : Int)
              omega
            have := i_eq (show v201 30 0 6 = v200 30 0 6 by rw [ev201]; exact up3_t (by decide))
            have := i_eq (show v201 30 0 8 = v200 30 0 8 by rw [ev201]; exact up3_t (by decide))
            have := i_eq (show v201 30 0 9 = v200 30 0 9 by rw [ev201]; exact up3_t (by decide))
            have := i_eq (show v201 30 0 11 = v200 30 0 11 by rw [ev201]; exact up3_t (by decide))
            have := i_eq (show v201 30 0 12 = v200 30 0 12 by rw [ev201]; exact up3_t (by decide))
            have := i_eq (show v201 30 0 17 = v200 30 0 17 by rw [ev201]; exact up3_t (by decide))
            have := i_eq (show v201 36 0 3 = v200 36 0 3 by rw [ev201]; exact up3_t (by decide))
            have := i_eq (show v201 37 0 0 = v200 37 0 0 by rw [ev201]; exact up3_j (by decide))
            have := i_eq (show v201 37 0 1 = r199 by rw [ev201]; exact up3_s)
            have := i_eq (show v201 37 0 2 = v200 37 0 2 by rw [ev201]; exact up3_j (by decide))
            have := i_eq (show v201 37 0 3 = v200 37 0 3 by rw [ev201]; exact up3_j (by decide))
            have := i_eq (show v201 37 0 4 = v200 37 0 4 by rw [ev201]; exact up3_j (by decide))
            have : ((v201 36 0 3).toInt = 0 ∧ (v201 36 0 4).toInt = 0) ∨ (0 < (v201 36 0 3).toInt ∧ 0 < (v201 36 0 4).toInt) := hI_v201.2.1
            refine ok_kb2 (k_X8_follows v201 hI_v201 0 6 (by have : (0 : Int32).toInt = 0 := (by decide); omega) (by have : (6 : Int32).toInt = 6 := (by decide); omega)) (fun r203 v204 hr203 => ?_)
            have hr203 : IM v204 ∧ (0 : Int) ≤ Int32.toInt r203 ∧ Int32.toInt r203 ≤ (9 : Int) ∧ (Int32.toInt (v204 37 0 3) = Int32.toInt (v201 37 0 3)) ∧ (Int32.toInt (v204 37 0 4) = Int32.toInt (v201 37 0 4)) ∧ (Int32.toInt (v201 30 0 8) < 0 ∨ 0 ≤ Int32.toInt (v204 30 0 8)) ∧ (Int32.toInt r203 ≤ Int32.toInt 6) := hr203
            obtain ⟨hI_v204, hr203⟩ := hr203
            have : ((v204 36 0 3).toInt = 0 ∧ (v204 36 0 4).toInt = 0) ∨ (0 < (v204 36 0 3).toInt ∧ 0 < (v204 36 0 4).toInt) := hI_v204.2.1
            have : (0 : Int) ≤ (v201 37 0 3).toInt ∧ (v201 37 0 3).toInt ≤ (6 : Int) := hI_v201.1 37 0 3
            have : (0 : Int) ≤ (v201 37 0 4).toInt ∧ (v201 37 0 4).toInt ≤ (4 : Int) := hI_v201.1 37 0 4
            have : (-1 : Int) ≤ (v201 30 0 8).toInt ∧ (v201 30 0 8).toInt ≤ (100 : Int) := hI_v201.1 30 0 8
            have : (0 : Int32).toInt = 0 := (by decide)
            have : (6 : Int32).toInt = 6 := (by decide)
            refine ok_let (fun v205 ev205 => ?_)
            have hI_v205 : IM v205 := by
              rw [ev205]
              refine hI_v204.upo (by decide) ?_
              show (0 : Int) ≤ Int32.toInt r203 ∧ Int32.toInt r203 ≤ (6 : Int)
              omega
            have := i_eq (show v205 30 0 6 = v204 30 0 6 by rw [ev205]; exact up3_t (by decide))
            have := i_eq (show v205 30 0 8 = v204 30 0 8 by rw [ev205]; exact up3_t (by decide))
            have := i_eq (show v205 30 0 9 = v204 30 0 9 by rw [ev205]; exact up3_t (by decide))
            have := i_eq (show v205 30 0 11 = v204 30 0 11 by rw [ev205]; exact up3_t (by decide))
            have := i_eq (show v205 30 0 12 = v204 30 0 12 by rw [ev205]; exact up3_t (by decide))
            have := i_eq (show v205 30 0 17 = v204 30 0 17 by rw [ev205]; exact up3_t (by decide))
            have := i_eq (show v205 36 0 3 = v204 36 0 3 by rw [ev205]; exact up3_t (by decide))
            have := i_eq (show v205 37 0 0 = v204 37 0 0 by rw [ev205]; exact up3_j (by decide))
            have := i_eq (show v205 37 0 1 = v204 37 0 1 by rw [ev205]; exact up3_j (by decide))
            have := i_eq (show v205 37 0 2 = r203 by rw [ev205]; exact up3_s)
            have := i_eq (show v205 37 0 3 = v204 37 0 3 by rw [ev205]; exact up3_j (by decide))
            have := i_eq (show v205 37 0 4 = v204 37 0 4 by rw [ev205]; exact up3_j (by decide))
            have : ((v205 36 0 3).toInt = 0 ∧ (v205 36 0 4).toInt = 0) ∨ (0 < (v205 36 0 3).toInt ∧ 0 < (v205 36 0 4).toInt) := hI_v205.2.1
            refine ok_ite _ (fun c206 => ?_) (fun c206 => ?_)
            · skip
              have ic206 := i_eq c206
              have : (0 : Int) ≤ (v205 30 0 11).toInt ∧ (v205 30 0 11).toInt ≤ (5 : Int) := hI_v205.1 30 0 11
              have : (4 : Int32).toInt = 4 := (by decide)
              refine ok_kb2 (k_X8_takes v205 hI_v205 1 1 ) (fun r208 v209 hr208 => ?_)
              have hr208 : IM v209 ∧ (Int32.toInt (v209 37 0 3) = Int32.toInt (v205 37 0 3)) ∧ (Int32.toInt (v209 37 0 4) = Int32.toInt (v205 37 0 4)) ∧ (Int32.toInt (v205 30 0 8) < 0 ∨ 0 ≤ Int32.toInt (v209 30 0 8)) ∧ (¬ Int32.toInt 1 = 0 ∨ 0 ≤ Int32.toInt (v209 30 0 8)) ∧ (Int32.toInt r208 = 0 ∨ (Int32.toInt r208 = Int32.toInt (v205 30 0 12) ∧ ¬ Int32.toInt 1 = 0)) := hr208
              obtain ⟨hI_v209, hr208⟩ := hr208
              have : ((v209 36 0 3).toInt = 0 ∧ (v209 36 0 4).toInt = 0) ∨ (0 < (v209 36 0 3).toInt ∧ 0 < (v209 36 0 4).toInt) := hI_v209.2.1
              have : (0 : Int) ≤ (v205 37 0 3).toInt ∧ (v205 37 0 3).toInt ≤ (6 : Int) := hI_v205.1 37 0 3
              have : (0 : Int) ≤ (v205 37 0 4).toInt ∧ (v205 37 0 4).toInt ≤ (4 : Int) := hI_v205.1 37 0 4
              have : (-1 : Int) ≤ (v205 30 0 8).toInt ∧ (v205 30 0 8).toInt ≤ (100 : Int) := hI_v205.1 30 0 8
              have : (1 : Int32).toInt = 1 := (by decide)
              refine ok_ite _ (fun c210 => ?_) (fun c210 => ?_)
              · skip
                have ic210 := i_eq c210
                have : (0 : Int) ≤ (v209 30 0 11).toInt ∧ (v209 30 0 11).toInt ≤ (5 : Int) := hI_v209.1 30 0 11
                have : (1 : Int32).toInt = 1 := (by decide)
                refine ok_ite _ (fun c211 => ?_) (fun c211 => ?_)
                · skip
                  have ic211 := i_eq c211
                  have : (119 : Int32).toInt = 119 := (by decide)
                  refine ok_bind (k_X8_must v209 hI_v209 1 ) (fun v214 hr213 => ?_)
                  have hr213 : IM v214 ∧ (Int32.toInt (v214 37 0 3) = Int32.toInt (v209 37 0 3)) ∧ (Int32.toInt (v214 37 0 4) = Int32.toInt (v209 37 0 4)) ∧ (Int32.toInt (v209 30 0 8) < 0 ∨ 0 ≤ Int32.toInt (v214 30 0 8)) ∧ (¬ Int32.toInt 1 = 0 ∨ 0 ≤ Int32.toInt (v214 30 0 8)) ∧ (Int32.toInt 1 = 0 ∨ (Int32.toInt (v214 30 0 11) = Int32.toInt (v209 30 0 11) ∧ Int32.toInt (v214 30 0 12) = Int32.toInt (v209 30 0 12))) := hr213
                  obtain ⟨hI_v214, hr213⟩ := hr213
                  have : ((v214 36 0 3).toInt = 0 ∧ (v214 36 0 4).toInt = 0) ∨ (0 < (v214 36 0 3).toInt ∧ 0 < (v214 36 0 4).toInt) := hI_v214.2.1
                  have : (0 : Int) ≤ (v209 37 0 3).toInt ∧ (v209 37 0 3).toInt ≤ (6 : Int) := hI_v209.1 37 0 3
                  have : (0 : Int) ≤ (v209 37 0 4).toInt ∧ (v209 37 0 4).toInt ≤ (4 : Int) := hI_v209.1 37 0 4
                  have : (-1 : Int) ≤ (v209 30 0 8).toInt ∧ (v209 30 0 8).toInt ≤ (100 : Int) := hI_v209.1 30 0 8
                  have : (0 : Int) ≤ (v209 30 0 11).toInt ∧ (v209 30 0 11).toInt ≤ (5 : Int) := hI_v209.1 30 0 11
                  have : (1 : Int32).toInt = 1 := (by decide)
                  exact loop147 2000 v214 x1_2 hI_v214 (by omega) (by omega)
                · skip
                  have ic211 := i_ne c211
                  have : (119 : Int32).toInt = 119 := (by decide)
                  refine ok_bind (k_X8_must v209 hI_v209 0 ) (fun v217 hr216 => ?_)
                  have hr216 : IM v217 ∧ (Int32.toInt (v217 37 0 3) = Int32.toInt (v209 37 0 3)) ∧ (Int32.toInt (v217 37 0 4) = Int32.toInt (v209 37 0 4)) ∧ (Int32.toInt (v209 30 0 8) < 0 ∨ 0 ≤ Int32.toInt (v217 30 0 8)) ∧ (¬ Int32.toInt 0 = 0 ∨ 0 ≤ Int32.toInt (v217 30 0 8)) ∧ (Int32.toInt 0 = 0 ∨ (Int32.toInt (v217 30 0 11) = Int32.toInt (v209 30 0 11) ∧ Int32.toInt (v217 30 0 12) = Int32.toInt (v209 30 0 12))) := hr216
                  obtain ⟨hI_v217, hr216⟩ := hr216
                  have : ((v217 36 0 3).toInt = 0 ∧ (v217 36 0 4).toInt = 0) ∨ (0 < (v217 36 0 3).toInt ∧ 0 < (v217 36 0 4).toInt) := hI_v217.2.1
                  have : (0 : Int) ≤ (v209 37 0 3).toInt ∧ (v209 37 0 3).toInt ≤ (6 : Int) := hI_v209.1 37 0 3
                  have : (0 : Int) ≤ (v209 37 0 4).toInt ∧ (v209 37 0 4).toInt ≤ (4 : Int) := hI_v209.1 37 0 4
                  have : (-1 : Int) ≤ (v209 30 0 8).toInt ∧ (v209 30 0 8).toInt ≤ (100 : Int) := hI_v209.1 30 0 8
                  have : (0 : Int) ≤ (v209 30 0 11).toInt ∧ (v209 30 0 11).toInt ≤ (5 : Int) := hI_v209.1 30 0 11
                  have : (0 : Int32).toInt = 0 := (by decide)
                  exact loop147 2000 v217 x1_2 hI_v217 (by omega) (by omega)
              · skip
                have ic210 := i_ne c210
                have : (0 : Int) ≤ (v209 30 0 11).toInt ∧ (v209 30 0 11).toInt ≤ (5 : Int) := hI_v209.1 30 0 11
                have : (1 : Int32).toInt = 1 := (by decide)
                refine ok_bind (k_X8_must v209 hI_v209 0 ) (fun v220 hr219 => ?_)
                have hr219 : IM v220 ∧ (Int32.toInt (v220 37 0 3) = Int32.toInt (v209 37 0 3)) ∧ (Int32.toInt (v220 37 0 4) = Int32.toInt (v209 37 0 4)) ∧ (Int32.toInt (v209 30 0 8) < 0 ∨ 0 ≤ Int32.toInt (v220 30 0 8)) ∧ (¬ Int32.toInt 0 = 0 ∨ 0 ≤ Int32.toInt (v220 30 0 8)) ∧ (Int32.toInt 0 = 0 ∨ (Int32.toInt (v220 30 0 11) = Int32.toInt (v209 30 0 11) ∧ Int32.toInt (v220 30 0 12) = Int32.toInt (v209 30 0 12))) := hr219
                obtain ⟨hI_v220, hr219⟩ := hr219
                have : ((v220 36 0 3).toInt = 0 ∧ (v220 36 0 4).toInt = 0) ∨ (0 < (v220 36 0 3).toInt ∧ 0 < (v220 36 0 4).toInt) := hI_v220.2.1
                have : (0 : Int) ≤ (v209 37 0 3).toInt ∧ (v209 37 0 3).toInt ≤ (6 : Int) := hI_v209.1 37 0 3
                have : (0 : Int) ≤ (v209 37 0 4).toInt ∧ (v209 37 0 4).toInt ≤ (4 : Int) := hI_v209.1 37 0 4
                have : (-1 : Int) ≤ (v209 30 0 8).toInt ∧ (v209 30 0 8).toInt ≤ (100 : Int) := hI_v209.1 30 0 8
                have : (0 : Int) ≤ (v209 30 0 11).toInt ∧ (v209 30 0 11).toInt ≤ (5 : Int) := hI_v209.1 30 0 11
                have : (0 : Int32).toInt = 0 := (by decide)
                exact loop147 2000 v220 x1_2 hI_v220 (by omega) (by omega)
            · skip
              have ic206 := i_ne c206
              have : (0 : Int) ≤ (v205 30 0 11).toInt ∧ (v205 30 0 11).toInt ≤ (5 : Int) := hI_v205.1 30 0 11
              have : (4 : Int32).toInt = 4 := (by decide)
              refine ok_kb2 (k_X8_takes v205 hI_v205 0 1 ) (fun r222 v223 hr222 => ?_)
              have hr222 : IM v223 ∧ (Int32.toInt (v223 37 0 3) = Int32.toInt (v205 37 0 3)) ∧ (Int32.toInt (v223 37 0 4) = Int32.toInt (v205 37 0 4)) ∧ (Int32.toInt (v205 30 0 8) < 0 ∨ 0 ≤ Int32.toInt (v223 30 0 8)) ∧ (¬ Int32.toInt 0 = 0 ∨ 0 ≤ Int32.toInt (v223 30 0 8)) ∧ (Int32.toInt r222 = 0 ∨ (Int32.toInt r222 = Int32.toInt (v205 30 0 12) ∧ ¬ Int32.toInt 0 = 0)) := hr222
              obtain ⟨hI_v223, hr222⟩ := hr222
              have : ((v223 36 0 3).toInt = 0 ∧ (v223 36 0 4).toInt = 0) ∨ (0 < (v223 36 0 3).toInt ∧ 0 < (v223 36 0 4).toInt) := hI_v223.2.1
              have : (0 : Int) ≤ (v205 37 0 3).toInt ∧ (v205 37 0 3).toInt ≤ (6 : Int) := hI_v205.1 37 0 3
              have : (0 : Int) ≤ (v205 37 0 4).toInt ∧ (v205 37 0 4).toInt ≤ (4 : Int) := hI_v205.1 37 0 4
              have : (-1 : Int) ≤ (v205 30 0 8).toInt ∧ (v205 30 0 8).toInt ≤ (100 : Int) := hI_v205.1 30 0 8
              have : (0 : Int32).toInt = 0 := (by decide)
              have : (1 : Int32).toInt = 1 := (by decide)
              refine ok_ite _ (fun c224 => ?_) (fun c224 => ?_)
              · skip
                have ic224 := i_eq c224
                have : (0 : Int) ≤ (v223 30 0 11).toInt ∧ (v223 30 0 11).toInt ≤ (5 : Int) := hI_v223.1 30 0 11
                have : (1 : Int32).toInt = 1 := (by decide)
                refine ok_ite _ (fun c225 => ?_) (fun c225 => ?_)
                · skip
                  have ic225 := i_eq c225
                  have : (119 : Int32).toInt = 119 := (by decide)
                  refine ok_bind (k_X8_must v223 hI_v223 1 ) (fun v228 hr227 => ?_)
                  have hr227 : IM v228 ∧ (Int32.toInt (v228 37 0 3) = Int32.toInt (v223 37 0 3)) ∧ (Int32.toInt (v228 37 0 4) = Int32.toInt (v223 37 0 4)) ∧ (Int32.toInt (v223 30 0 8) < 0 ∨ 0 ≤ Int32.toInt (v228 30 0 8)) ∧ (¬ Int32.toInt 1 = 0 ∨ 0 ≤ Int32.toInt (v228 30 0 8)) ∧ (Int32.toInt 1 = 0 ∨ (Int32.toInt (v228 30 0 11) = Int32.toInt (v223 30 0 11) ∧ Int32.toInt (v228 30 0 12) = Int32.toInt (v223 30 0 12))) := hr227
                  obtain ⟨hI_v228, hr227⟩ := hr227
                  have : ((v228 36 0 3).toInt = 0 ∧ (v228 36 0 4).toInt = 0) ∨ (0 < (v228 36 0 3).toInt ∧ 0 < (v228 36 0 4).toInt) := hI_v228.2.1
                  have : (0 : Int) ≤ (v223 37 0 3).toInt ∧ (v223 37 0 3).toInt ≤ (6 : Int) := hI_v223.1 37 0 3
                  have : (0 : Int) ≤ (v223 37 0 4).toInt ∧ (v223 37 0 4).toInt ≤ (4 : Int) := hI_v223.1 37 0 4
                  have : (-1 : Int) ≤ (v223 30 0 8).toInt ∧ (v223 30 0 8).toInt ≤ (100 : Int) := hI_v223.1 30 0 8
                  have : (0 : Int) ≤ (v223 30 0 11).toInt ∧ (v223 30 0 11).toInt ≤ (5 : Int) := hI_v223.1 30 0 11
                  have : (1 : Int32).toInt = 1 := (by decide)
                  exact loop147 2000 v228 x1_2 hI_v228 (by omega) (by omega)
                · skip
                  have ic225 := i_ne c225
                  have : (119 : Int32).toInt = 119 := (by decide)
                  refine ok_bind (k_X8_must v223 hI_v223 0 ) (fun v231 hr230 => ?_)
                  have hr230 : IM v231 ∧ (Int32.toInt (v231 37 0 3) = Int32.toInt (v223 37 0 3)) ∧ (Int32.toInt (v231 37 0 4) = Int32.toInt (v223 37 0 4)) ∧ (Int32.toInt (v223 30 0 8) < 0 ∨ 0 ≤ Int32.toInt (v231 30 0 8)) ∧ (¬ Int32.toInt 0 = 0 ∨ 0 ≤ Int32.toInt (v231 30 0 8)) ∧ (Int32.toInt 0 = 0 ∨ (Int32.toInt (v231 30 0 11) = Int32.toInt (v223 30 0 11) ∧ Int32.toInt (v231 30 0 12) = Int32.toInt (v223 30 0 12))) := hr230
                  obtain ⟨hI_v231, hr230⟩ := hr230
                  have : ((v231 36 0 3).toInt = 0 ∧ (v231 36 0 4).toInt = 0) ∨ (0 < (v231 36 0 3).toInt ∧ 0 < (v231 36 0 4).toInt) := hI_v231.2.1
                  have : (0 : Int) ≤ (v223 37 0 3).toInt ∧ (v223 37 0 3).toInt ≤ (6 : Int) := hI_v223.1 37 0 3
                  have : (0 : Int) ≤ (v223 37 0 4).toInt ∧ (v223 37 0 4).toInt ≤ (4 : Int) := hI_v223.1 37 0 4
                  have : (-1 : Int) ≤ (v223 30 0 8).toInt ∧ (v223 30 0 8).toInt ≤ (100 : Int) := hI_v223.1 30 0 8
                  have : (0 : Int) ≤ (v223 30 0 11).toInt ∧ (v223 30 0 11).toInt ≤ (5 : Int) := hI_v223.1 30 0 11
                  have : (0 : Int32).toInt = 0 := (by decide)
                  exact loop147 2000 v231 x1_2 hI_v231 (by omega) (by omega)
              · skip
                have ic224 := i_ne c224
                have : (0 : Int) ≤ (v223 30 0 11).toInt ∧ (v223 30 0 11).toInt ≤ (5 : Int) := hI_v223.1 30 0 11
                have : (1 : Int32).toInt = 1 := (by decide)
                refine ok_bind (k_X8_must v223 hI_v223 0 ) (fun v234 hr233 => ?_)
                have hr233 : IM v234 ∧ (Int32.toInt (v234 37 0 3) = Int32.toInt (v223 37 0 3)) ∧ (Int32.toInt (v234 37 0 4) = Int32.toInt (v223 37 0 4)) ∧ (Int32.toInt (v223 30 0 8) < 0 ∨ 0 ≤ Int32.toInt (v234 30 0 8)) ∧ (¬ Int32.toInt 0 = 0 ∨ 0 ≤ Int32.toInt (v234 30 0 8)) ∧ (Int32.toInt 0 = 0 ∨ (Int32.toInt (v234 30 0 11) = Int32.toInt (v223 30 0 11) ∧ Int32.toInt (v234 30 0 12) = Int32.toInt (v223 30 0 12))) := hr233
                obtain ⟨hI_v234, hr233⟩ := hr233
                have : ((v234 36 0 3).toInt = 0 ∧ (v234 36 0 4).toInt = 0) ∨ (0 < (v234 36 0 3).toInt ∧ 0 < (v234 36 0 4).toInt) := hI_v234.2.1
                have : (0 : Int) ≤ (v223 37 0 3).toInt ∧ (v223 37 0 3).toInt ≤ (6 : Int) := hI_v223.1 37 0 3
                have : (0 : Int) ≤ (v223 37 0 4).toInt ∧ (v223 37 0 4).toInt ≤ (4 : Int) := hI_v223.1 37 0 4
                have : (-1 : Int) ≤ (v223 30 0 8).toInt ∧ (v223 30 0 8).toInt ≤ (100 : Int) := hI_v223.1 30 0 8
                have : (0 : Int) ≤ (v223 30 0 11).toInt ∧ (v223 30 0 11).toInt ≤ (5 : Int) := hI_v223.1 30 0 11
                have : (0 : Int32).toInt = 0 := (by decide)
                exact loop147 2000 v234 x1_2 hI_v234 (by omega) (by omega)
        · skip
          have ic145 := i_ne c145
          have : (0 : Int) ≤ (v144 30 0 11).toInt ∧ (v144 30 0 11).toInt ≤ (5 : Int) := hI_v144.1 30 0 11
          have : (1 : Int32).toInt = 1 := (by decide)
          refine ok_kb2 (k_X8_takes v144 hI_v144 0 1 ) (fun r236 v237 hr236 => ?_)
          have hr236 : IM v237 ∧ (Int32.toInt (v237 37 0 3) = Int32.toInt (v144 37 0 3)) ∧ (Int32.toInt (v237 37 0 4) = Int32.toInt (v144 37 0 4)) ∧ (Int32.toInt (v144 30 0 8) < 0 ∨ 0 ≤ Int32.toInt (v237 30 0 8)) ∧ (¬ Int32.toInt 0 = 0 ∨ 0 ≤ Int32.toInt (v237 30 0 8)) ∧ (Int32.toInt r236 = 0 ∨ (Int32.toInt r236 = Int32.toInt (v144 30 0 12) ∧ ¬ Int32.toInt 0 = 0)) := hr236
          obtain ⟨hI_v237, hr236⟩ := hr236
          have : ((v237 36 0 3).toInt = 0 ∧ (v237 36 0 4).toInt = 0) ∨ (0 < (v237 36 0 3).toInt ∧ 0 < (v237 36 0 4).toInt) := hI_v237.2.1
          have : (0 : Int) ≤ (v144 37 0 3).toInt ∧ (v144 37 0 3).toInt ≤ (6 : Int) := hI_v144.1 37 0 3
          have : (0 : Int) ≤ (v144 37 0 4).toInt ∧ (v144 37 0 4).toInt ≤ (4 : Int) := hI_v144.1 37 0 4
          have : (-1 : Int) ≤ (v144 30 0 8).toInt ∧ (v144 30 0 8).toInt ≤ (100 : Int) := hI_v144.1 30 0 8
          have : (0 : Int32).toInt = 0 := (by decide)
          have : (1 : Int32).toInt = 1 := (by decide)
          refine ok_kb2 (k_X8_figure v237 hI_v237 0 9 (by have : (0 : Int32).toInt = 0 := (by decide); omega) (by have : (9 : Int32).toInt = 9 := (by decide); omega)) (fun r239 v240 hr239 => ?_)
          have hr239 : IM v240 ∧ (0 : Int) ≤ Int32.toInt r239 ∧ Int32.toInt r239 ≤ (9 : Int) ∧ (Int32.toInt (v240 37 0 3) = Int32.toInt (v237 37 0 3)) ∧ (Int32.toInt (v240 37 0 4) = Int32.toInt (v237 37 0 4)) ∧ (Int32.toInt (v237 30 0 8) < 0 ∨ 0 ≤ Int32.toInt (v240 30 0 8)) ∧ (Int32.toInt r239 ≤ Int32.toInt 9) := hr239
          obtain ⟨hI_v240, hr239⟩ := hr239
          have : ((v240 36 0 3).toInt = 0 ∧ (v240 36 0 4).toInt = 0) ∨ (0 < (v240 36 0 3).toInt ∧ 0 < (v240 36 0 4).toInt) := hI_v240.2.1
          have : (0 : Int) ≤ (v237 37 0 3).toInt ∧ (v237 37 0 3).toInt ≤ (6 : Int) := hI_v237.1 37 0 3
          have : (0 : Int) ≤ (v237 37 0 4).toInt ∧ (v237 37 0 4).toInt ≤ (4 : Int) := hI_v237.1 37 0 4
          have : (-1 : Int) ≤ (v237 30 0 8).toInt ∧ (v237 30 0 8).toInt ≤ (100 : Int) := hI_v237.1 30 0 8
          have : (0 : Int32).toInt = 0 := (by decide)
          have : (9 : Int32).toInt = 9 := (by decide)
          refine ok_let (fun v241 ev241 => ?_)
          have hI_v241 : IM v241 := by
            rw [ev241]
            refine hI_v240.upo (by decide) ?_
            show (0 : Int) ≤ Int32.toInt r239 ∧ Int32.toInt r239 ≤ (9 : Int)
            omega
          have := i_eq (show v241 30 0 6 = v240 30 0 6 by rw [ev241]; exact up3_t (by decide))
          have := i_eq (show v241 30 0 8 = v240 30 0 8 by rw [ev241]; exact up3_t (by decide))
          have := i_eq (show v241 30 0 9 = v240 30 0 9 by rw [ev241]; exact up3_t (by decide))
          have := i_eq (show v241 30 0 11 = v240 30 0 11 by rw [ev241]; exact up3_t (by decide))
          have := i_eq (show v241 30 0 12 = v240 30 0 12 by rw [ev241]; exact up3_t (by decide))
          have := i_eq (show v241 30 0 17 = v240 30 0 17 by rw [ev241]; exact up3_t (by decide))
          have := i_eq (show v241 36 0 3 = v240 36 0 3 by rw [ev241]; exact up3_t (by decide))
          have := i_eq (show v241 37 0 0 = r239 by rw [ev241]; exact up3_s)
          have := i_eq (show v241 37 0 1 = v240 37 0 1 by rw [ev241]; exact up3_j (by decide))
          have := i_eq (show v241 37 0 2 = v240 37 0 2 by rw [ev241]; exact up3_j (by decide))
          have := i_eq (show v241 37 0 3 = v240 37 0 3 by rw [ev241]; exact up3_j (by decide))
          have := i_eq (show v241 37 0 4 = v240 37 0 4 by rw [ev241]; exact up3_j (by decide))
          have : ((v241 36 0 3).toInt = 0 ∧ (v241 36 0 4).toInt = 0) ∨ (0 < (v241 36 0 3).toInt ∧ 0 < (v241 36 0 4).toInt) := hI_v241.2.1
          refine ok_kb2 (k_X8_follows v241 hI_v241 0 9 (by have : (0 : Int32).toInt = 0 := (by decide); omega) (by have : (9 : Int32).toInt = 9 := (by decide); omega)) (fun r243 v244 hr243 => ?_)
          have hr243 : IM v244 ∧ (0 : Int) ≤ Int32.toInt r243 ∧ Int32.toInt r243 ≤ (9 : Int) ∧ (Int32.toInt (v244 37 0 3) = Int32.toInt (v241 37 0 3)) ∧ (Int32.toInt (v244 37 0 4) = Int32.toInt (v241 37 0 4)) ∧ (Int32.toInt (v241 30 0 8) < 0 ∨ 0 ≤ Int32.toInt (v244 30 0 8)) ∧ (Int32.toInt r243 ≤ Int32.toInt 9) := hr243
          obtain ⟨hI_v244, hr243⟩ := hr243
          have : ((v244 36 0 3).toInt = 0 ∧ (v244 36 0 4).toInt = 0) ∨ (0 < (v244 36 0 3).toInt ∧ 0 < (v244 36 0 4).toInt) := hI_v244.2.1
          have : (0 : Int) ≤ (v241 37 0 3).toInt ∧ (v241 37 0 3).toInt ≤ (6 : Int) := hI_v241.1 37 0 3
          have : (0 : Int) ≤ (v241 37 0 4).toInt ∧ (v241 37 0 4).toInt ≤ (4 : Int) := hI_v241.1 37 0 4
          have : (-1 : Int) ≤ (v241 30 0 8).toInt ∧ (v241 30 0 8).toInt ≤ (100 : Int) := hI_v241.1 30 0 8
          have : (0 : Int32).toInt = 0 := (by decide)
          have : (9 : Int32).toInt = 9 := (by decide)
          refine ok_let (fun v245 ev245 => ?_)
          have hI_v245 : IM v245 := by
            rw [ev245]
            refine hI_v244.upo (by decide) ?_
            show (0 : Int) ≤ Int32.toInt r243 ∧ Int32.toInt r243 ≤ (9 : Int)
            omega
          have := i_eq (show v245 30 0 6 = v244 30 0 6 by rw [ev245]; exact up3_t (by decide))
          have := i_eq (show v245 30 0 8 = v244 30 0 8 by rw [ev245]; exact up3_t (by decide))
          have := i_eq (show v245 30 0 9 = v244 30 0 9 by rw [ev245]; exact up3_t (by decide))
          have := i_eq (show v245 30 0 11 = v244 30 0 11 by rw [ev245]; exact up3_t (by decide))
          have := i_eq (show v245 30 0 12 = v244 30 0 12 by rw [ev245]; exact up3_t (by decide))
          have := i_eq (show v245 30 0 17 = v244 30 0 17 by rw [ev245]; exact up3_t (by decide))
          have := i_eq (show v245 36 0 3 = v244 36 0 3 by rw [ev245]; exact up3_t (by decide))
          have := i_eq (show v245 37 0 0 = v244 37 0 0 by rw [ev245]; exact up3_j (by decide))
          have := i_eq (show v245 37 0 1 = r243 by rw [ev245]; exact up3_s)
          have := i_eq (show v245 37 0 2 = v244 37 0 2 by rw [ev245]; exact up3_j (by decide))
          have := i_eq (show v245 37 0 3 = v244 37 0 3 by rw [ev245]; exact up3_j (by decide))
          have := i_eq (show v245 37 0 4 = v244 37 0 4 by rw [ev245]; exact up3_j (by decide))
          have : ((v245 36 0 3).toInt = 0 ∧ (v245 36 0 4).toInt = 0) ∨ (0 < (v245 36 0 3).toInt ∧ 0 < (v245 36 0 4).toInt) := hI_v245.2.1
          refine ok_kb2 (k_X8_follows v245 hI_v245 0 6 (by have : (0 : Int32).toInt = 0 := (by decide); omega) (by have : (6 : Int32).toInt = 6 := (by decide); omega)) (fun r247 v248 hr247 => ?_)
          have hr247 : IM v248 ∧ (0 : Int) ≤ Int32.toInt r247 ∧ Int32.toInt r247 ≤ (9 : Int) ∧ (Int32.toInt (v248 37 0 3) = Int32.toInt (v245 37 0 3)) ∧ (Int32.toInt (v248 37 0 4) = Int32.toInt (v245 37 0 4)) ∧ (Int32.toInt (v245 30 0 8) < 0 ∨ 0 ≤ Int32.toInt (v248 30 0 8)) ∧ (Int32.toInt r247 ≤ Int32.toInt 6) := hr247
          obtain ⟨hI_v248, hr247⟩ := hr247
          have : ((v248 36 0 3).toInt = 0 ∧ (v248 36 0 4).toInt = 0) ∨ (0 < (v248 36 0 3).toInt ∧ 0 < (v248 36 0 4).toInt) := hI_v248.2.1
          have : (0 : Int) ≤ (v245 37 0 3).toInt ∧ (v245 37 0 3).toInt ≤ (6 : Int) := hI_v245.1 37 0 3
          have : (0 : Int) ≤ (v245 37 0 4).toInt ∧ (v245 37 0 4).toInt ≤ (4 : Int) := hI_v245.1 37 0 4
          have : (-1 : Int) ≤ (v245 30 0 8).toInt ∧ (v245 30 0 8).toInt ≤ (100 : Int) := hI_v245.1 30 0 8
          have : (0 : Int32).toInt = 0 := (by decide)
          have : (6 : Int32).toInt = 6 := (by decide)
          refine ok_let (fun v249 ev249 => ?_)
          have hI_v249 : IM v249 := by
            rw [ev249]
            refine hI_v248.upo (by decide) ?_
            show (0 : Int) ≤ Int32.toInt r247 ∧ Int32.toInt r247 ≤ (6 : Int)
            omega
          have := i_eq (show v249 30 0 6 = v248 30 0 6 by rw [ev249]; exact up3_t (by decide))
          have := i_eq (show v249 30 0 8 = v248 30 0 8 by rw [ev249]; exact up3_t (by decide))
          have := i_eq (show v249 30 0 9 = v248 30 0 9 by rw [ev249]; exact up3_t (by decide))
          have := i_eq (show v249 30 0 11 = v248 30 0 11 by rw [ev249]; exact up3_t (by decide))
          have := i_eq (show v249 30 0 12 = v248 30 0 12 by rw [ev249]; exact up3_t (by decide))
          have := i_eq (show v249 30 0 17 = v248 30 0 17 by rw [ev249]; exact up3_t (by decide))
          have := i_eq (show v249 36 0 3 = v248 36 0 3 by rw [ev249]; exact up3_t (by decide))
          have := i_eq (show v249 37 0 0 = v248 37 0 0 by rw [ev249]; exact up3_j (by decide))
          have := i_eq (show v249 37 0 1 = v248 37 0 1 by rw [ev249]; exact up3_j (by decide))
          have := i_eq (show v249 37 0 2 = r247 by rw [ev249]; exact up3_s)
          have := i_eq (show v249 37 0 3 = v248 37 0 3 by rw [ev249]; exact up3_j (by decide))
          have := i_eq (show v249 37 0 4 = v248 37 0 4 by rw [ev249]; exact up3_j (by decide))
          have : ((v249 36 0 3).toInt = 0 ∧ (v249 36 0 4).toInt = 0) ∨ (0 < (v249 36 0 3).toInt ∧ 0 < (v249 36 0 4).toInt) := hI_v249.2.1
          refine ok_ite _ (fun c250 => ?_) (fun c250 => ?_)
          · skip
            have ic250 := i_eq c250
            have : (0 : Int) ≤ (v249 30 0 11).toInt ∧ (v249 30 0 11).toInt ≤ (5 : Int) := hI_v249.1 30 0 11
            have : (4 : Int32).toInt = 4 := (by decide)
            refine ok_kb2 (k_X8_takes v249 hI_v249 1 1 ) (fun r252 v253 hr252 => ?_)
            have hr252 : IM v253 ∧ (Int32.toInt (v253 37 0 3) = Int32.toInt (v249 37 0 3)) ∧ (Int32.toInt (v253 37 0 4) = Int32.toInt (v249 37 0 4)) ∧ (Int32.toInt (v249 30 0 8) < 0 ∨ 0 ≤ Int32.toInt (v253 30 0 8)) ∧ (¬ Int32.toInt 1 = 0 ∨ 0 ≤ Int32.toInt (v253 30 0 8)) ∧ (Int32.toInt r252 = 0 ∨ (Int32.toInt r252 = Int32.toInt (v249 30 0 12) ∧ ¬ Int32.toInt 1 = 0)) := hr252
            obtain ⟨hI_v253, hr252⟩ := hr252
            have : ((v253 36 0 3).toInt = 0 ∧ (v253 36 0 4).toInt = 0) ∨ (0 < (v253 36 0 3).toInt ∧ 0 < (v253 36 0 4).toInt) := hI_v253.2.1
            have : (0 : Int) ≤ (v249 37 0 3).toInt ∧ (v249 37 0 3).toInt ≤ (6 : Int) := hI_v249.1 37 0 3
            have : (0 : Int) ≤ (v249 37 0 4).toInt ∧ (v249 37 0 4).toInt ≤ (4 : Int) := hI_v249.1 37 0 4
            have : (-1 : Int) ≤ (v249 30 0 8).toInt ∧ (v249 30 0 8).toInt ≤ (100 : Int) := hI_v249.1 30 0 8
            have : (1 : Int32).toInt = 1 := (by decide)
            refine ok_ite _ (fun c254 => ?_) (fun c254 => ?_)
            · skip
              have ic254 := i_eq c254
              have : (0 : Int) ≤ (v253 30 0 11).toInt ∧ (v253 30 0 11).toInt ≤ (5 : Int) := hI_v253.1 30 0 11
              have : (1 : Int32).toInt = 1 := (by decide)
              refine ok_ite _ (fun c255 => ?_) (fun c255 => ?_)
              · skip
                have ic255 := i_eq c255
                have : (119 : Int32).toInt = 119 := (by decide)
                refine ok_bind (k_X8_must v253 hI_v253 1 ) (fun v258 hr257 => ?_)
                have hr257 : IM v258 ∧ (Int32.toInt (v258 37 0 3) = Int32.toInt (v253 37 0 3)) ∧ (Int32.toInt (v258 37 0 4) = Int32.toInt (v253 37 0 4)) ∧ (Int32.toInt (v253 30 0 8) < 0 ∨ 0 ≤ Int32.toInt (v258 30 0 8)) ∧ (¬ Int32.toInt 1 = 0 ∨ 0 ≤ Int32.toInt (v258 30 0 8)) ∧ (Int32.toInt 1 = 0 ∨ (Int32.toInt (v258 30 0 11) = Int32.toInt (v253 30 0 11) ∧ Int32.toInt (v258 30 0 12) = Int32.toInt (v253 30 0 12))) := hr257
                obtain ⟨hI_v258, hr257⟩ := hr257
                have : ((v258 36 0 3).toInt = 0 ∧ (v258 36 0 4).toInt = 0) ∨ (0 < (v258 36 0 3).toInt ∧ 0 < (v258 36 0 4).toInt) := hI_v258.2.1
                have : (0 : Int) ≤ (v253 37 0 3).toInt ∧ (v253 37 0 3).toInt ≤ (6 : Int) := hI_v253.1 37 0 3
                have : (0 : Int) ≤ (v253 37 0 4).toInt ∧ (v253 37 0 4).toInt ≤ (4 : Int) := hI_v253.1 37 0 4
                have : (-1 : Int) ≤ (v253 30 0 8).toInt ∧ (v253 30 0 8).toInt ≤ (100 : Int) := hI_v253.1 30 0 8
                have : (0 : Int) ≤ (v253 30 0 11).toInt ∧ (v253 30 0 11).toInt ≤ (5 : Int) := hI_v253.1 30 0 11
                have : (1 : Int32).toInt = 1 := (by decide)
                exact loop147 2000 v258 x1_2 hI_v258 (by omega) (by omega)
              · skip
                have ic255 := i_ne c255
                have : (119 : Int32).toInt = 119 := (by decide)
                refine ok_bind (k_X8_must v253 hI_v253 0 ) (fun v261 hr260 => ?_)
                have hr260 : IM v261 ∧ (Int32.toInt (v261 37 0 3) = Int32.toInt (v253 37 0 3)) ∧ (Int32.toInt (v261 37 0 4) = Int32.toInt (v253 37 0 4)) ∧ (Int32.toInt (v253 30 0 8) < 0 ∨ 0 ≤ Int32.toInt (v261 30 0 8)) ∧ (¬ Int32.toInt 0 = 0 ∨ 0 ≤ Int32.toInt (v261 30 0 8)) ∧ (Int32.toInt 0 = 0 ∨ (Int32.toInt (v261 30 0 11) = Int32.toInt (v253 30 0 11) ∧ Int32.toInt (v261 30 0 12) = Int32.toInt (v253 30 0 12))) := hr260
                obtain ⟨hI_v261, hr260⟩ := hr260
                have : ((v261 36 0 3).toInt = 0 ∧ (v261 36 0 4).toInt = 0) ∨ (0 < (v261 36 0 3).toInt ∧ 0 < (v261 36 0 4).toInt) := hI_v261.2.1
                have : (0 : Int) ≤ (v253 37 0 3).toInt ∧ (v253 37 0 3).toInt ≤ (6 : Int) := hI_v253.1 37 0 3
                have : (0 : Int) ≤ (v253 37 0 4).toInt ∧ (v253 37 0 4).toInt ≤ (4 : Int) := hI_v253.1 37 0 4
                have : (-1 : Int) ≤ (v253 30 0 8).toInt ∧ (v253 30 0 8).toInt ≤ (100 : Int) := hI_v253.1 30 0 8
                have : (0 : Int) ≤ (v253 30 0 11).toInt ∧ (v253 30 0 11).toInt ≤ (5 : Int) := hI_v253.1 30 0 11
                have : (0 : Int32).toInt = 0 := (by decide)
                exact loop147 2000 v261 x1_2 hI_v261 (by omega) (by omega)
            · skip
              have ic254 := i_ne c254
              have : (0 : Int) ≤ (v253 30 0 11).toInt ∧ (v253 30 0 11).toInt ≤ (5 : Int) := hI_v253.1 30 0 11
              have : (1 : Int32).toInt = 1 := (by decide)
              refine ok_bind (k_X8_must v253 hI_v253 0 ) (fun v264 hr263 => ?_)
              have hr263 : IM v264 ∧ (Int32.toInt (v264 37 0 3) = Int32.toInt (v253 37 0 3)) ∧ (Int32.toInt (v264 37 0 4) = Int32.toInt (v253 37 0 4)) ∧ (Int32.toInt (v253 30 0 8) < 0 ∨ 0 ≤ Int32.toInt (v264 30 0 8)) ∧ (¬ Int32.toInt 0 = 0 ∨ 0 ≤ Int32.toInt (v264 30 0 8)) ∧ (Int32.toInt 0 = 0 ∨ (Int32.toInt (v264 30 0 11) = Int32.toInt (v253 30 0 11) ∧ Int32.toInt (v264 30 0 12) = Int32.toInt (v253 30 0 12))) := hr263
              obtain ⟨hI_v264, hr263⟩ := hr263
              have : ((v264 36 0 3).toInt = 0 ∧ (v264 36 0 4).toInt = 0) ∨ (0 < (v264 36 0 3).toInt ∧ 0 < (v264 36 0 4).toInt) := hI_v264.2.1
              have : (0 : Int) ≤ (v253 37 0 3).toInt ∧ (v253 37 0 3).toInt ≤ (6 : Int) := hI_v253.1 37 0 3
              have : (0 : Int) ≤ (v253 37 0 4).toInt ∧ (v253 37 0 4).toInt ≤ (4 : Int) := hI_v253.1 37 0 4
              have : (-1 : Int) ≤ (v253 30 0 8).toInt ∧ (v253 30 0 8).toInt ≤ (100 : Int) := hI_v253.1 30 0 8
              have : (0 : Int) ≤ (v253 30 0 11).toInt ∧ (v253 30 0 11).toInt ≤ (5 : Int) := hI_v253.1 30 0 11
              have : (0 : Int32).toInt = 0 := (by decide)
              exact loop147 2000 v264 x1_2 hI_v264 (by omega) (by omega)
          · skip
            have ic250 := i_ne c250
            have : (0 : Int) ≤ (v249 30 0 11).toInt ∧ (v249 30 0 11).toInt ≤ (5 : Int) := hI_v249.1 30 0 11
            have : (4 : Int32).toInt = 4 := (by decide)
            refine ok_kb2 (k_X8_takes v249 hI_v249 0 1 ) (fun r266 v267 hr266 => ?_)
            have hr266 : IM v267 ∧ (Int32.toInt (v267 37 0 3) = Int32.toInt (v249 37 0 3)) ∧ (Int32.toInt (v267 37 0 4) = Int32.toInt (v249 37 0 4)) ∧ (Int32.toInt (v249 30 0 8) < 0 ∨ 0 ≤ Int32.toInt (v267 30 0 8)) ∧ (¬ Int32.toInt 0 = 0 ∨ 0 ≤ Int32.toInt (v267 30 0 8)) ∧ (Int32.toInt r266 = 0 ∨ (Int32.toInt r266 = Int32.toInt (v249 30 0 12) ∧ ¬ Int32.toInt 0 = 0)) := hr266
            obtain ⟨hI_v267, hr266⟩ := hr266
            have : ((v267 36 0 3).toInt = 0 ∧ (v267 36 0 4).toInt = 0) ∨ (0 < (v267 36 0 3).toInt ∧ 0 < (v267 36 0 4).toInt) := hI_v267.2.1
            have : (0 : Int) ≤ (v249 37 0 3).toInt ∧ (v249 37 0 3).toInt ≤ (6 : Int) := hI_v249.1 37 0 3
            have : (0 : Int) ≤ (v249 37 0 4).toInt ∧ (v249 37 0 4).toInt ≤ (4 : Int) := hI_v249.1 37 0 4
            have : (-1 : Int) ≤ (v249 30 0 8).toInt ∧ (v249 30 0 8).toInt ≤ (100 : Int) := hI_v249.1 30 0 8
            have : (0 : Int32).toInt = 0 := (by decide)
            have : (1 : Int32).toInt = 1 := (by decide)
            refine ok_ite _ (fun c268 => ?_) (fun c268 => ?_)
            · skip
              have ic268 := i_eq c268
              have : (0 : Int) ≤ (v267 30 0 11).toInt ∧ (v267 30 0 11).toInt ≤ (5 : Int) := hI_v267.1 30 0 11
              have : (1 : Int32).toInt = 1 := (by decide)
              refine ok_ite _ (fun c269 => ?_) (fun c269 => ?_)
              · skip
                have ic269 := i_eq c269
                have : (119 : Int32).toInt = 119 := (by decide)
                refine ok_bind (k_X8_must v267 hI_v267 1 ) (fun v272 hr271 => ?_)
                have hr271 : IM v272 ∧ (Int32.toInt (v272 37 0 3) = Int32.toInt (v267 37 0 3)) ∧ (Int32.toInt (v272 37 0 4) = Int32.toInt (v267 37 0 4)) ∧ (Int32.toInt (v267 30 0 8) < 0 ∨ 0 ≤ Int32.toInt (v272 30 0 8)) ∧ (¬ Int32.toInt 1 = 0 ∨ 0 ≤ Int32.toInt (v272 30 0 8)) ∧ (Int32.toInt 1 = 0 ∨ (Int32.toInt (v272 30 0 11) = Int32.toInt (v267 30 0 11) ∧ Int32.toInt (v272 30 0 12) = Int32.toInt (v267 30 0 12))) := hr271
                obtain ⟨hI_v272, hr271⟩ := hr271
                have : ((v272 36 0 3).toInt = 0 ∧ (v272 36 0 4).toInt = 0) ∨ (0 < (v272 36 0 3).toInt ∧ 0 < (v272 36 0 4).toInt) := hI_v272.2.1
                have : (0 : Int) ≤ (v267 37 0 3).toInt ∧ (v267 37 0 3).toInt ≤ (6 : Int) := hI_v267.1 37 0 3
                have : (0 : Int) ≤ (v267 37 0 4).toInt ∧ (v267 37 0 4).toInt ≤ (4 : Int) := hI_v267.1 37 0 4
                have : (-1 : Int) ≤ (v267 30 0 8).toInt ∧ (v267 30 0 8).toInt ≤ (100 : Int) := hI_v267.1 30 0 8
                have : (0 : Int) ≤ (v267 30 0 11).toInt ∧ (v267 30 0 11).toInt ≤ (5 : Int) := hI_v267.1 30 0 11
                have : (1 : Int32).toInt = 1 := (by decide)
                exact loop147 2000 v272 x1_2 hI_v272 (by omega) (by omega)
              · skip
                have ic269 := i_ne c269
                have : (119 : Int32).toInt = 119 := (by decide)
                refine ok_bind (k_X8_must v267 hI_v267 0 ) (fun v275 hr274 => ?_)
                have hr274 : IM v275 ∧ (Int32.toInt (v275 37 0 3) = Int32.toInt (v267 37 0 3)) ∧ (Int32.toInt (v275 37 0 4) = Int32.toInt (v267 37 0 4)) ∧ (Int32.toInt (v267 30 0 8) < 0 ∨ 0 ≤ Int32.toInt (v275 30 0 8)) ∧ (¬ Int32.toInt 0 = 0 ∨ 0 ≤ Int32.toInt (v275 30 0 8)) ∧ (Int32.toInt 0 = 0 ∨ (Int32.toInt (v275 30 0 11) = Int32.toInt (v267 30 0 11) ∧ Int32.toInt (v275 30 0 12) = Int32.toInt (v267 30 0 12))) := hr274
                obtain ⟨hI_v275, hr274⟩ := hr274
                have : ((v275 36 0 3).toInt = 0 ∧ (v275 36 0 4).toInt = 0) ∨ (0 < (v275 36 0 3).toInt ∧ 0 < (v275 36 0 4).toInt) := hI_v275.2.1
                have : (0 : Int) ≤ (v267 37 0 3).toInt ∧ (v267 37 0 3).toInt ≤ (6 : Int) := hI_v267.1 37 0 3
                have : (0 : Int) ≤ (v267 37 0 4).toInt ∧ (v267 37 0 4).toInt ≤ (4 : Int) := hI_v267.1 37 0 4
                have : (-1 : Int) ≤ (v267 30 0 8).toInt ∧ (v267 30 0 8).toInt ≤ (100 : Int) := hI_v267.1 30 0 8
                have : (0 : Int) ≤ (v267 30 0 11).toInt ∧ (v267 30 0 11).toInt ≤ (5 : Int) := hI_v267.1 30 0 11
                have : (0 : Int32).toInt = 0 := (by decide)
                exact loop147 2000 v275 x1_2 hI_v275 (by omega) (by omega)
            · skip
              have ic268 := i_ne c268
              have : (0 : Int) ≤ (v267 30 0 11).toInt ∧ (v267 30 0 11).toInt ≤ (5 : Int) := hI_v267.1 30 0 11
              have : (1 : Int32).toInt = 1 := (by decide)
              refine ok_bind (k_X8_must v267 hI_v267 0 ) (fun v278 hr277 => ?_)
              have hr277 : IM v278 ∧ (Int32.toInt (v278 37 0 3) = Int32.toInt (v267 37 0 3)) ∧ (Int32.toInt (v278 37 0 4) = Int32.toInt (v267 37 0 4)) ∧ (Int32.toInt (v267 30 0 8) < 0 ∨ 0 ≤ Int32.toInt (v278 30 0 8)) ∧ (¬ Int32.toInt 0 = 0 ∨ 0 ≤ Int32.toInt (v278 30 0 8)) ∧ (Int32.toInt 0 = 0 ∨ (Int32.toInt (v278 30 0 11) = Int32.toInt (v267 30 0 11) ∧ Int32.toInt (v278 30 0 12) = Int32.toInt (v267 30 0 12))) := hr277
              obtain ⟨hI_v278, hr277⟩ := hr277
              have : ((v278 36 0 3).toInt = 0 ∧ (v278 36 0 4).toInt = 0) ∨ (0 < (v278 36 0 3).toInt ∧ 0 < (v278 36 0 4).toInt) := hI_v278.2.1
              have : (0 : Int) ≤ (v267 37 0 3).toInt ∧ (v267 37 0 3).toInt ≤ (6 : Int) := hI_v267.1 37 0 3
              have : (0 : Int) ≤ (v267 37 0 4).toInt ∧ (v267 37 0 4).toInt ≤ (4 : Int) := hI_v267.1 37 0 4
              have : (-1 : Int) ≤ (v267 30 0 8).toInt ∧ (v267 30 0 8).toInt ≤ (100 : Int) := hI_v267.1 30 0 8
              have : (0 : Int) ≤ (v267 30 0 11).toInt ∧ (v267 30 0 11).toInt ≤ (5 : Int) := hI_v267.1 30 0 11
              have : (0 : Int32).toInt = 0 := (by decide)
              exact loop147 2000 v278 x1_2 hI_v278 (by omega) (by omega)
      · skip
        have ic139 := i_nle c139
        have : (65 : Int32).toInt = 65 := (by decide)
        refine ok_grd _ ?_ ?_
        · skip
          exact gr (by omega) (by omega)
        refine ok_let (fun v280 ev280 => ?_)
        have : (0 : Int32).toInt = 0 := (by decide)
        have hI_v280 : IM v280 := by
          rw [ev280]
          first | exact hI_w2.um7 (by omega) (by omega) | exact hI_w2.u07
        have := i_eq (show v280 30 0 6 = w2 30 0 6 by rw [ev280]; exact up3_t (by decide))
        have := i_eq (show v280 30 0 8 = w2 30 0 8 by rw [ev280]; exact up3_t (by decide))
        have := i_eq (show v280 30 0 9 = w2 30 0 9 by rw [ev280]; exact up3_t (by decide))
        have := i_eq (show v280 30 0 11 = w2 30 0 11 by rw [ev280]; exact up3_t (by decide))
        have := i_eq (show v280 30 0 12 = w2 30 0 12 by rw [ev280]; exact up3_t (by decide))
        have := i_eq (show v280 30 0 17 = w2 30 0 17 by rw [ev280]; exact up3_t (by decide))
        have := i_eq (show v280 36 0 3 = w2 36 0 3 by rw [ev280]; exact up3_t (by decide))
        (try have := i_eq (show v280 37 0 0 = w2 37 0 0 by rw [ev280]; exact up3_j (tcne (by omega) (by omega))))
        (try have := i_eq (show v280 37 0 1 = w2 37 0 1 by rw [ev280]; exact up3_j (tcne (by omega) (by omega))))
        (try have := i_eq (show v280 37 0 2 = w2 37 0 2 by rw [ev280]; exact up3_j (tcne (by omega) (by omega))))
        (try have := i_eq (show v280 37 0 3 = w2 37 0 3 by rw [ev280]; exact up3_j (tcne (by omega) (by omega))))
        (try have := i_eq (show v280 37 0 4 = w2 37 0 4 by rw [ev280]; exact up3_j (tcne (by omega) (by omega))))
        have : ((v280 36 0 3).toInt = 0 ∧ (v280 36 0 4).toInt = 0) ∨ (0 < (v280 36 0 3).toInt ∧ 0 < (v280 36 0 4).toInt) := hI_v280.2.1
        have : (1 : Int32).toInt = 1 := (by decide)
        have := i_bd x1_2
        (first | have := sp_addx x1_2 (1 : Int32) (by omega) | obtain ⟨k7, hk7⟩ := sp_add x1_2 (1 : Int32))
        exact ih2 v280 (x1_2 + 1) hI_v280 (by omega) (by omega)
  unfold g_X8_gate
  try rw [tc_0]
  try rw [tc_1]
  try rw [tc_2]
  try rw [tc_3]
  have : (0 : Int32).toInt = 0 := (by decide)
  exact loop2 2000 v 0 hI_v (by omega) (by omega)
set_option maxHeartbeats 4000000 in
theorem k_X8_fault (v : Mm) (hI_v : IM v)  : ok (g_X8_fault v ) (fun z => True) := by
  have : ((v 36 0 3).toInt = 0 ∧ (v 36 0 4).toInt = 0) ∨ (0 < (v 36 0 3).toInt ∧ 0 < (v 36 0 4).toInt) := hI_v.2.1
  unfold g_X8_fault
  refine ok_some ?_
  show True
  trivial
