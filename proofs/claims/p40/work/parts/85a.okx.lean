set_option maxHeartbeats 4000000 in
theorem k_X0_forget (v : Mm) (hI_v : PW rgX v)  : ok (g_X0_forget v ) (fun z => PW rgX z) := by
  unfold g_X0_forget
  refine ok_let (fun v1 ev1 => ?_)
  have hI_v1 : PW rgX v1 := by
    rw [ev1]
    refine hI_v.up ?_
    show (0 : Int) ≤ Int32.toInt (0 : Int32) ∧ Int32.toInt (0 : Int32) ≤ (24 : Int)
    have : (0 : Int32).toInt = 0 := (by decide)
    omega
  have := i_eq (show v1 15 0 2 = 0 by rw [ev1]; exact up3_s)
  have : (0 : Int32).toInt = 0 := (by decide)
  refine ok_some ?_
  show PW rgX v1
  exact hI_v1
set_option maxHeartbeats 4000000 in
theorem k_X0_keep (v : Mm) (hI_v : PW rgX v) (i1 : Nat) : ok (g_X0_keep v i1) (fun z => PW rgX z ∧ (Int32.toInt (z 10 0 4) = Int32.toInt (v 10 0 4))) := by
  unfold g_X0_keep
  refine ok_grd _ ?_ ?_
  · skip
    have : (0 : Int) ≤ (v 15 0 1).toInt ∧ (v 15 0 1).toInt ≤ (23 : Int) := hI_v 15 0 1
    exact gr (by omega) (by omega)
  refine ok_bind (k_X4_become v hI_v (4 + (Int32.toNatClampNeg (v 15 0 1))) i1 ) (fun v4 hr3 => ?_)
  replace hr3 : PW rgX v4 ∧ ((4 + (Int32.toNatClampNeg (v 15 0 1))) = 0 ∨ Int32.toInt (v4 10 0 4) = Int32.toInt (v 10 0 4)) := hr3
  obtain ⟨hI_v4, hr3_p0⟩ := hr3
  have : (0 : Int) ≤ (v 15 0 1).toInt ∧ (v 15 0 1).toInt ≤ (23 : Int) := hI_v 15 0 1
  have : (0 : Int) ≤ (v 10 0 4).toInt ∧ (v 10 0 4).toInt ≤ (999 : Int) := hI_v 10 0 4
  refine ok_ite _ (fun c5 => ?_) (fun c5 => ?_)
  · skip
    have ic5 := i_le c5
    have : (0 : Int) ≤ (v4 15 0 1).toInt ∧ (v4 15 0 1).toInt ≤ (23 : Int) := hI_v4 15 0 1
    have : (1 : Int32).toInt = 1 := (by decide)
    have := i_bd (v4 15 0 1)
    (first | have := sp_addx (v4 15 0 1) (1 : Int32) (by omega) | obtain ⟨k1, hk1⟩ := sp_add (v4 15 0 1) (1 : Int32))
    have : (24 : Int32).toInt = 24 := (by decide)
    refine ok_let (fun v6 ev6 => ?_)
    have hI_v6 : PW rgX v6 := by
      rw [ev6]
      refine hI_v4.up ?_
      show (0 : Int) ≤ Int32.toInt (0 : Int32) ∧ Int32.toInt (0 : Int32) ≤ (23 : Int)
      have : (0 : Int32).toInt = 0 := (by decide)
      omega
    have := i_eq (show v6 10 0 4 = v4 10 0 4 by rw [ev6]; exact up3_t (by decide))
    have := i_eq (show v6 15 0 1 = 0 by rw [ev6]; exact up3_s)
    have : (0 : Int32).toInt = 0 := (by decide)
    have := i_eq (show v6 15 0 2 = v4 15 0 2 by rw [ev6]; exact up3_j (by decide))
    refine ok_let (fun x7 ex7 => ?_)
    have : (24 : Int32).toInt = 24 := (by decide)
    have : (0 : Int) ≤ (v6 15 0 2).toInt ∧ (v6 15 0 2).toInt ≤ (24 : Int) := hI_v6 15 0 2
    have : (1 : Int32).toInt = 1 := (by decide)
    have := i_bd (v6 15 0 2)
    (first | have := sp_addx (v6 15 0 2) (1 : Int32) (by omega) | obtain ⟨k2, hk2⟩ := sp_add (v6 15 0 2) (1 : Int32))
    have := sp_itelt ex7
    refine ok_let (fun v8 ev8 => ?_)
    have hI_v8 : PW rgX v8 := by
      rw [ev8]
      refine hI_v6.up ?_
      show (0 : Int) ≤ Int32.toInt x7 ∧ Int32.toInt x7 ≤ (24 : Int)
      omega
    have := i_eq (show v8 10 0 4 = v6 10 0 4 by rw [ev8]; exact up3_t (by decide))
    have := i_eq (show v8 15 0 1 = v6 15 0 1 by rw [ev8]; exact up3_j (by decide))
    have := i_eq (show v8 15 0 2 = x7 by rw [ev8]; exact up3_s)
    refine ok_some ?_
    show PW rgX v8 ∧ (Int32.toInt (v8 10 0 4) = Int32.toInt (v 10 0 4))
    refine ⟨hI_v8, ?_⟩
    omega
  · skip
    have ic5 := i_nle c5
    have : (0 : Int) ≤ (v4 15 0 1).toInt ∧ (v4 15 0 1).toInt ≤ (23 : Int) := hI_v4 15 0 1
    have : (1 : Int32).toInt = 1 := (by decide)
    have := i_bd (v4 15 0 1)
    (first | have := sp_addx (v4 15 0 1) (1 : Int32) (by omega) | obtain ⟨k3, hk3⟩ := sp_add (v4 15 0 1) (1 : Int32))
    have : (24 : Int32).toInt = 24 := (by decide)
    refine ok_let (fun v9 ev9 => ?_)
    have hI_v9 : PW rgX v9 := by
      rw [ev9]
      refine hI_v4.up ?_
      show (0 : Int) ≤ Int32.toInt ((v4 15 0 1) + 1) ∧ Int32.toInt ((v4 15 0 1) + 1) ≤ (23 : Int)
      have : (0 : Int) ≤ (v4 15 0 1).toInt ∧ (v4 15 0 1).toInt ≤ (23 : Int) := hI_v4 15 0 1
      have : (1 : Int32).toInt = 1 := (by decide)
      have := i_bd (v4 15 0 1)
      (first | have := sp_addx (v4 15 0 1) (1 : Int32) (by omega) | obtain ⟨k4, hk4⟩ := sp_add (v4 15 0 1) (1 : Int32))
      omega
    have := i_eq (show v9 10 0 4 = v4 10 0 4 by rw [ev9]; exact up3_t (by decide))
    have := i_eq (show v9 15 0 1 = ((v4 15 0 1) + 1) by rw [ev9]; exact up3_s)
    have : (0 : Int) ≤ (v4 15 0 1).toInt ∧ (v4 15 0 1).toInt ≤ (23 : Int) := hI_v4 15 0 1
    have : (1 : Int32).toInt = 1 := (by decide)
    have := i_bd (v4 15 0 1)
    (first | have := sp_addx (v4 15 0 1) (1 : Int32) (by omega) | obtain ⟨k5, hk5⟩ := sp_add (v4 15 0 1) (1 : Int32))
    have := i_eq (show v9 15 0 2 = v4 15 0 2 by rw [ev9]; exact up3_j (by decide))
    refine ok_let (fun x10 ex10 => ?_)
    have : (24 : Int32).toInt = 24 := (by decide)
    have : (0 : Int) ≤ (v9 15 0 2).toInt ∧ (v9 15 0 2).toInt ≤ (24 : Int) := hI_v9 15 0 2
    have : (1 : Int32).toInt = 1 := (by decide)
    have := i_bd (v9 15 0 2)
    (first | have := sp_addx (v9 15 0 2) (1 : Int32) (by omega) | obtain ⟨k6, hk6⟩ := sp_add (v9 15 0 2) (1 : Int32))
    have := sp_itelt ex10
    refine ok_let (fun v11 ev11 => ?_)
    have hI_v11 : PW rgX v11 := by
      rw [ev11]
      refine hI_v9.up ?_
      show (0 : Int) ≤ Int32.toInt x10 ∧ Int32.toInt x10 ≤ (24 : Int)
      omega
    have := i_eq (show v11 10 0 4 = v9 10 0 4 by rw [ev11]; exact up3_t (by decide))
    have := i_eq (show v11 15 0 1 = v9 15 0 1 by rw [ev11]; exact up3_j (by decide))
    have := i_eq (show v11 15 0 2 = x10 by rw [ev11]; exact up3_s)
    refine ok_some ?_
    show PW rgX v11 ∧ (Int32.toInt (v11 10 0 4) = Int32.toInt (v 10 0 4))
    refine ⟨hI_v11, ?_⟩
    omega
set_option maxHeartbeats 4000000 in
theorem k_X0_takeBack (v : Mm) (hI_v : PW rgX v) (i1 : Nat) : ok (g_X0_takeBack v i1) (fun z => PW rgX z.2 ∧ (0 : Int) ≤ Int32.toInt (z.1) ∧ Int32.toInt (z.1) ≤ (1 : Int)) := by
  unfold g_X0_takeBack
  refine ok_ite _ (fun c1 => ?_) (fun c1 => ?_)
  · skip
    have ic1 := i_eq c1
    have : (0 : Int) ≤ (v 15 0 2).toInt ∧ (v 15 0 2).toInt ≤ (24 : Int) := hI_v 15 0 2
    have : (0 : Int32).toInt = 0 := (by decide)
    refine ok_some ?_
    show PW rgX v ∧ (0 : Int) ≤ Int32.toInt (0 : Int32) ∧ Int32.toInt (0 : Int32) ≤ (1 : Int)
    have : (0 : Int32).toInt = 0 := (by decide)
    refine ⟨hI_v, ?_⟩
    omega
  · skip
    have ic1 := i_ne c1
    have : (0 : Int) ≤ (v 15 0 2).toInt ∧ (v 15 0 2).toInt ≤ (24 : Int) := hI_v 15 0 2
    have : (0 : Int32).toInt = 0 := (by decide)
    refine ok_ite _ (fun c2 => ?_) (fun c2 => ?_)
    · skip
      have ic2 := i_le c2
      have : (0 : Int) ≤ (v 15 0 1).toInt ∧ (v 15 0 1).toInt ≤ (23 : Int) := hI_v 15 0 1
      have : (0 : Int32).toInt = 0 := (by decide)
      refine ok_let (fun v3 ev3 => ?_)
      have hI_v3 : PW rgX v3 := by
        rw [ev3]
        refine hI_v.up ?_
        show (0 : Int) ≤ Int32.toInt (23 : Int32) ∧ Int32.toInt (23 : Int32) ≤ (23 : Int)
        have : (23 : Int32).toInt = 23 := (by decide)
        omega
      have := i_eq (show v3 15 0 1 = 23 by rw [ev3]; exact up3_s)
      have : (23 : Int32).toInt = 23 := (by decide)
      have := i_eq (show v3 15 0 2 = v 15 0 2 by rw [ev3]; exact up3_j (by decide))
      refine ok_let (fun v4 ev4 => ?_)
      have hI_v4 : PW rgX v4 := by
        rw [ev4]
        refine hI_v3.up ?_
        show (0 : Int) ≤ Int32.toInt ((v3 15 0 2) - 1) ∧ Int32.toInt ((v3 15 0 2) - 1) ≤ (24 : Int)
        have : (0 : Int) ≤ (v3 15 0 2).toInt ∧ (v3 15 0 2).toInt ≤ (24 : Int) := hI_v3 15 0 2
        have : (1 : Int32).toInt = 1 := (by decide)
        have := i_bd (v3 15 0 2)
        (first | have := sp_subx (v3 15 0 2) (1 : Int32) (by omega) | obtain ⟨k1, hk1⟩ := sp_sub (v3 15 0 2) (1 : Int32))
        omega
      have := i_eq (show v4 15 0 1 = v3 15 0 1 by rw [ev4]; exact up3_j (by decide))
      have := i_eq (show v4 15 0 2 = ((v3 15 0 2) - 1) by rw [ev4]; exact up3_s)
      have : (0 : Int) ≤ (v3 15 0 2).toInt ∧ (v3 15 0 2).toInt ≤ (24 : Int) := hI_v3 15 0 2
      have : (1 : Int32).toInt = 1 := (by decide)
      have := i_bd (v3 15 0 2)
      (first | have := sp_subx (v3 15 0 2) (1 : Int32) (by omega) | obtain ⟨k2, hk2⟩ := sp_sub (v3 15 0 2) (1 : Int32))
      refine ok_grd _ ?_ ?_
      · skip
        have : (0 : Int) ≤ (v4 15 0 1).toInt ∧ (v4 15 0 1).toInt ≤ (23 : Int) := hI_v4 15 0 1
        exact gr (by omega) (by omega)
      refine ok_bind (k_X4_become v4 hI_v4 i1 (4 + (Int32.toNatClampNeg (v4 15 0 1))) ) (fun v8 hr7 => ?_)
      replace hr7 : PW rgX v8 ∧ (i1 = 0 ∨ Int32.toInt (v8 10 0 4) = Int32.toInt (v4 10 0 4)) := hr7
      obtain ⟨hI_v8, hr7_p0⟩ := hr7
      have : (0 : Int) ≤ (v4 10 0 4).toInt ∧ (v4 10 0 4).toInt ≤ (999 : Int) := hI_v4 10 0 4
      refine ok_some ?_
      show PW rgX v8 ∧ (0 : Int) ≤ Int32.toInt (1 : Int32) ∧ Int32.toInt (1 : Int32) ≤ (1 : Int)
      have : (1 : Int32).toInt = 1 := (by decide)
      refine ⟨hI_v8, ?_⟩
      omega
    · skip
      have ic2 := i_nle c2
      have : (0 : Int) ≤ (v 15 0 1).toInt ∧ (v 15 0 1).toInt ≤ (23 : Int) := hI_v 15 0 1
      have : (0 : Int32).toInt = 0 := (by decide)
      refine ok_let (fun v9 ev9 => ?_)
      have hI_v9 : PW rgX v9 := by
        rw [ev9]
        refine hI_v.up ?_
        show (0 : Int) ≤ Int32.toInt ((v 15 0 1) - 1) ∧ Int32.toInt ((v 15 0 1) - 1) ≤ (23 : Int)
        have : (0 : Int) ≤ (v 15 0 1).toInt ∧ (v 15 0 1).toInt ≤ (23 : Int) := hI_v 15 0 1
        have : (1 : Int32).toInt = 1 := (by decide)
        have := i_bd (v 15 0 1)
        (first | have := sp_subx (v 15 0 1) (1 : Int32) (by omega) | obtain ⟨k3, hk3⟩ := sp_sub (v 15 0 1) (1 : Int32))
        omega
      have := i_eq (show v9 15 0 1 = ((v 15 0 1) - 1) by rw [ev9]; exact up3_s)
      have : (0 : Int) ≤ (v 15 0 1).toInt ∧ (v 15 0 1).toInt ≤ (23 : Int) := hI_v 15 0 1
      have : (1 : Int32).toInt = 1 := (by decide)
      have := i_bd (v 15 0 1)
      (first | have := sp_subx (v 15 0 1) (1 : Int32) (by omega) | obtain ⟨k4, hk4⟩ := sp_sub (v 15 0 1) (1 : Int32))
      have := i_eq (show v9 15 0 2 = v 15 0 2 by rw [ev9]; exact up3_j (by decide))
      refine ok_let (fun v10 ev10 => ?_)
      have hI_v10 : PW rgX v10 := by
        rw [ev10]
        refine hI_v9.up ?_
        show (0 : Int) ≤ Int32.toInt ((v9 15 0 2) - 1) ∧ Int32.toInt ((v9 15 0 2) - 1) ≤ (24 : Int)
        have : (0 : Int) ≤ (v9 15 0 2).toInt ∧ (v9 15 0 2).toInt ≤ (24 : Int) := hI_v9 15 0 2
        have : (1 : Int32).toInt = 1 := (by decide)
        have := i_bd (v9 15 0 2)
        (first | have := sp_subx (v9 15 0 2) (1 : Int32) (by omega) | obtain ⟨k5, hk5⟩ := sp_sub (v9 15 0 2) (1 : Int32))
        omega
      have := i_eq (show v10 15 0 1 = v9 15 0 1 by rw [ev10]; exact up3_j (by decide))
      have := i_eq (show v10 15 0 2 = ((v9 15 0 2) - 1) by rw [ev10]; exact up3_s)
      have : (0 : Int) ≤ (v9 15 0 2).toInt ∧ (v9 15 0 2).toInt ≤ (24 : Int) := hI_v9 15 0 2
      have : (1 : Int32).toInt = 1 := (by decide)
      have := i_bd (v9 15 0 2)
      (first | have := sp_subx (v9 15 0 2) (1 : Int32) (by omega) | obtain ⟨k6, hk6⟩ := sp_sub (v9 15 0 2) (1 : Int32))
      refine ok_grd _ ?_ ?_
      · skip
        have : (0 : Int) ≤ (v10 15 0 1).toInt ∧ (v10 15 0 1).toInt ≤ (23 : Int) := hI_v10 15 0 1
        exact gr (by omega) (by omega)
      refine ok_bind (k_X4_become v10 hI_v10 i1 (4 + (Int32.toNatClampNeg (v10 15 0 1))) ) (fun v14 hr13 => ?_)
      replace hr13 : PW rgX v14 ∧ (i1 = 0 ∨ Int32.toInt (v14 10 0 4) = Int32.toInt (v10 10 0 4)) := hr13
      obtain ⟨hI_v14, hr13_p0⟩ := hr13
      have : (0 : Int) ≤ (v10 10 0 4).toInt ∧ (v10 10 0 4).toInt ≤ (999 : Int) := hI_v10 10 0 4
      refine ok_some ?_
      show PW rgX v14 ∧ (0 : Int) ≤ Int32.toInt (1 : Int32) ∧ Int32.toInt (1 : Int32) ≤ (1 : Int)
      have : (1 : Int32).toInt = 1 := (by decide)
      refine ⟨hI_v14, ?_⟩
      omega
set_option maxHeartbeats 4000000 in
theorem k_X1_isA (v : Mm) (hI_v : PW rgX v) (a0 : Int32) (a1 : Int32) : ok (g_X1_isA v a0 a1) (fun z => (0 : Int) ≤ Int32.toInt z ∧ Int32.toInt z ≤ (1 : Int)) := by
  have loop4 : ∀ (n4 : Nat) (x2_4 : Int32) (x3_4 : Int32), ((0 : Int) ≤ Int32.toInt x3_4 ∧ Int32.toInt x3_4 ≤ (6 : Int)) → (6 - Int32.toInt x3_4 < (n4 : Int)) → ok (g_X1_isA_L4  v a0 a1 n4 x2_4 x3_4) (fun z => (0 : Int) ≤ Int32.toInt z ∧ Int32.toInt z ≤ (1 : Int)) := by
    intro n4
    induction n4 with
    | zero =>
      intro x2_4 x3_4 hv0_4 hm4
      exfalso
      omega
    | succ n4 ih4 =>
      intro x2_4 x3_4 hv0_4 hm4
      show ok (b_X1_isA_L4  (g_X1_isA_L4  v a0 a1 n4) v a0 a1 x2_4 x3_4) _
      unfold b_X1_isA_L4
      refine ok_ite _ (fun c1 => ?_) (fun c1 => ?_)
      · skip
        have ic1 := i_lt c1
        have : (5 : Int32).toInt = 5 := (by decide)
        refine ok_some ?_
        show (0 : Int) ≤ Int32.toInt (0 : Int32) ∧ Int32.toInt (0 : Int32) ≤ (1 : Int)
        have : (0 : Int32).toInt = 0 := (by decide)
        omega
      · skip
        have ic1 := i_nlt c1
        have : (5 : Int32).toInt = 5 := (by decide)
        refine ok_ite _ (fun c2 => ?_) (fun c2 => ?_)
        · skip
          have ic2 := i_lt c2
          have : (0 : Int32).toInt = 0 := (by decide)
          refine ok_some ?_
          show (0 : Int) ≤ Int32.toInt (0 : Int32) ∧ Int32.toInt (0 : Int32) ≤ (1 : Int)
          have : (0 : Int32).toInt = 0 := (by decide)
          omega
        · skip
          have ic2 := i_nlt c2
          have : (0 : Int32).toInt = 0 := (by decide)
          refine ok_ite _ (fun c3 => ?_) (fun c3 => ?_)
          · skip
            have ic3 := i_lt c3
            have : (5 : Int32).toInt = 5 := (by decide)
            refine ok_some ?_
            show (0 : Int) ≤ Int32.toInt (0 : Int32) ∧ Int32.toInt (0 : Int32) ≤ (1 : Int)
            have : (0 : Int32).toInt = 0 := (by decide)
            omega
          · skip
            have ic3 := i_nlt c3
            have : (5 : Int32).toInt = 5 := (by decide)
            refine ok_ite _ (fun c4 => ?_) (fun c4 => ?_)
            · skip
              have ic4 := i_eq c4
              refine ok_some ?_
              show (0 : Int) ≤ Int32.toInt (1 : Int32) ∧ Int32.toInt (1 : Int32) ≤ (1 : Int)
              have : (1 : Int32).toInt = 1 := (by decide)
              omega
            · skip
              have ic4 := i_ne c4
              refine ok_grd _ ?_ ?_
              · skip
                exact gr (by omega) (by omega)
              have : (1 : Int32).toInt = 1 := (by decide)
              have := i_bd x3_4
              (first | have := sp_addx x3_4 (1 : Int32) (by omega) | obtain ⟨k1, hk1⟩ := sp_add x3_4 (1 : Int32))
              exact ih4 (st_above (Int32.toNatClampNeg x2_4)) (x3_4 + 1) (by omega) (by omega)
  unfold g_X1_isA
  have : (0 : Int32).toInt = 0 := (by decide)
  exact loop4 2000 a0 0 (by omega) (by omega)
set_option maxHeartbeats 4000000 in
theorem k_X1_turnTo (v : Mm) (hI_v : PW rgX v) (a1 : Int32) (a2 : Int32) (a3 : Int32) (a4 : Int32) : ok (g_X1_turnTo v a1 a2 a3 a4) (fun z => PW rgX z) := by
  unfold g_X1_turnTo
  refine ok_let (fun v1 ev1 => ?_)
  have hI_v1 : PW rgX v1 := by rw [ev1]; exact hI_v.up (by have h9 := i_bd a1; exact ⟨h9.1, Int.le_of_lt_add_one h9.2⟩)
  have := i_eq (show v1 21 0 1 = v 21 0 1 by rw [ev1]; exact up3_j (by decide))
  have := i_eq (show v1 21 0 2 = a1 by rw [ev1]; exact up3_s)
  have := i_eq (show v1 21 0 3 = v 21 0 3 by rw [ev1]; exact up3_j (by decide))
  have := i_eq (show v1 21 0 4 = v 21 0 4 by rw [ev1]; exact up3_j (by decide))
  have := i_eq (show v1 21 0 5 = v 21 0 5 by rw [ev1]; exact up3_j (by decide))
  refine ok_let (fun v2 ev2 => ?_)
  have hI_v2 : PW rgX v2 := by rw [ev2]; exact hI_v1.up (by have h9 := i_bd a2; exact ⟨h9.1, Int.le_of_lt_add_one h9.2⟩)
  have := i_eq (show v2 21 0 1 = v1 21 0 1 by rw [ev2]; exact up3_j (by decide))
  have := i_eq (show v2 21 0 2 = v1 21 0 2 by rw [ev2]; exact up3_j (by decide))
  have := i_eq (show v2 21 0 3 = a2 by rw [ev2]; exact up3_s)
  have := i_eq (show v2 21 0 4 = v1 21 0 4 by rw [ev2]; exact up3_j (by decide))
  have := i_eq (show v2 21 0 5 = v1 21 0 5 by rw [ev2]; exact up3_j (by decide))
  refine ok_let (fun v3 ev3 => ?_)
  have hI_v3 : PW rgX v3 := by rw [ev3]; exact hI_v2.up (by have h9 := i_bd a3; exact ⟨h9.1, Int.le_of_lt_add_one h9.2⟩)
  have := i_eq (show v3 21 0 1 = v2 21 0 1 by rw [ev3]; exact up3_j (by decide))
  have := i_eq (show v3 21 0 2 = v2 21 0 2 by rw [ev3]; exact up3_j (by decide))
  have := i_eq (show v3 21 0 3 = v2 21 0 3 by rw [ev3]; exact up3_j (by decide))
  have := i_eq (show v3 21 0 4 = a3 by rw [ev3]; exact up3_s)
  have := i_eq (show v3 21 0 5 = v2 21 0 5 by rw [ev3]; exact up3_j (by decide))
  refine ok_let (fun v4 ev4 => ?_)
  have hI_v4 : PW rgX v4 := by rw [ev4]; exact hI_v3.up (by have h9 := i_bd a4; exact ⟨h9.1, Int.le_of_lt_add_one h9.2⟩)
  have := i_eq (show v4 21 0 1 = v3 21 0 1 by rw [ev4]; exact up3_j (by decide))
  have := i_eq (show v4 21 0 2 = v3 21 0 2 by rw [ev4]; exact up3_j (by decide))
  have := i_eq (show v4 21 0 3 = v3 21 0 3 by rw [ev4]; exact up3_j (by decide))
  have := i_eq (show v4 21 0 4 = v3 21 0 4 by rw [ev4]; exact up3_j (by decide))
  have := i_eq (show v4 21 0 5 = a4 by rw [ev4]; exact up3_s)
  refine ok_let (fun v5 ev5 => ?_)
  have hI_v5 : PW rgX v5 := by
    rw [ev5]
    refine hI_v4.up ?_
    show (0 : Int) ≤ Int32.toInt (0 : Int32) ∧ Int32.toInt (0 : Int32) ≤ (16 : Int)
    have : (0 : Int32).toInt = 0 := (by decide)
    omega
  have := i_eq (show v5 21 0 1 = 0 by rw [ev5]; exact up3_s)
  have : (0 : Int32).toInt = 0 := (by decide)
  have := i_eq (show v5 21 0 2 = v4 21 0 2 by rw [ev5]; exact up3_j (by decide))
  have := i_eq (show v5 21 0 3 = v4 21 0 3 by rw [ev5]; exact up3_j (by decide))
  have := i_eq (show v5 21 0 4 = v4 21 0 4 by rw [ev5]; exact up3_j (by decide))
  have := i_eq (show v5 21 0 5 = v4 21 0 5 by rw [ev5]; exact up3_j (by decide))
  refine ok_some ?_
  show PW rgX v5
  exact hI_v5
set_option maxHeartbeats 4000000 in
theorem k_X1_sizeBody (v : Mm) (hI_v : PW rgX v)  : ok (g_X1_sizeBody v ) (fun z => True) := by
  unfold g_X1_sizeBody
  refine ok_ite _ (fun c2 => ?_) (fun c2 => ?_)
  · skip
    have ic2 := i_lt c2
    have : (0 : Int32).toInt = 0 := (by decide)
    refine ok_some ?_
    show True
    trivial
  · skip
    have ic2 := i_nlt c2
    have : (0 : Int32).toInt = 0 := (by decide)
    refine ok_ite _ (fun c3 => ?_) (fun c3 => ?_)
    · skip
      have ic3 := i_lt c3
      have : (5 : Int32).toInt = 5 := (by decide)
      refine ok_some ?_
      show True
      trivial
    · skip
      have ic3 := i_nlt c3
      have : (5 : Int32).toInt = 5 := (by decide)
      refine ok_grd _ ?_ ?_
      · skip
        exact gr (by omega) (by omega)
      refine ok_some ?_
      show True
      trivial
set_option maxHeartbeats 4000000 in
theorem k_X1_markBody (v : Mm) (hI_v : PW rgX v)  : ok (g_X1_markBody v ) (fun z => True) := by
  unfold g_X1_markBody
  refine ok_ite _ (fun c2 => ?_) (fun c2 => ?_)
  · skip
    have ic2 := i_lt c2
    have : (0 : Int32).toInt = 0 := (by decide)
    refine ok_some ?_
    show True
    trivial
  · skip
    have ic2 := i_nlt c2
    have : (0 : Int32).toInt = 0 := (by decide)
    refine ok_ite _ (fun c3 => ?_) (fun c3 => ?_)
    · skip
      have ic3 := i_lt c3
      have : (5 : Int32).toInt = 5 := (by decide)
      refine ok_some ?_
      show True
      trivial
    · skip
      have ic3 := i_nlt c3
      have : (5 : Int32).toInt = 5 := (by decide)
      refine ok_grd _ ?_ ?_
      · skip
        exact gr (by omega) (by omega)
      refine ok_some ?_
      show True
      trivial
set_option maxHeartbeats 4000000 in
theorem k_X1_leave (v : Mm) (hI_v : PW rgX v) (a1 : Int32) : ok (g_X1_leave v a1) (fun z => PW rgX z) := by
  unfold g_X1_leave
  refine ok_ite _ (fun c1 => ?_) (fun c1 => ?_)
  · skip
    have ic1 := i_le c1
    have : (0 : Int) ≤ (v 21 0 1).toInt ∧ (v 21 0 1).toInt ≤ (16 : Int) := hI_v 21 0 1
    have : (16 : Int32).toInt = 16 := (by decide)
    refine ok_some ?_
    show PW rgX v
    exact hI_v
  · skip
    have ic1 := i_nle c1
    have : (0 : Int) ≤ (v 21 0 1).toInt ∧ (v 21 0 1).toInt ≤ (16 : Int) := hI_v 21 0 1
    have : (16 : Int32).toInt = 16 := (by decide)
    refine ok_grd _ ?_ ?_
    · skip
      have : (0 : Int) ≤ (v 21 0 1).toInt ∧ (v 21 0 1).toInt ≤ (16 : Int) := hI_v 21 0 1
      exact gr (by omega) (by omega)
    refine ok_let (fun v3 ev3 => ?_)
    have : (0 : Int) ≤ (v 21 0 1).toInt ∧ (v 21 0 1).toInt ≤ (16 : Int) := hI_v 21 0 1
    have hI_v3 : PW rgX v3 := by rw [ev3]; exact hI_v.up (by have h9 := i_bd a1; exact ⟨h9.1, Int.le_of_lt_add_one h9.2⟩)
    have := i_eq (show v3 21 0 1 = v 21 0 1 by rw [ev3]; exact up3_t (by decide))
    refine ok_let (fun v4 ev4 => ?_)
    have hI_v4 : PW rgX v4 := by
      rw [ev4]
      refine hI_v3.up ?_
      show (0 : Int) ≤ Int32.toInt ((v3 21 0 1) + 1) ∧ Int32.toInt ((v3 21 0 1) + 1) ≤ (16 : Int)
      have : (0 : Int) ≤ (v3 21 0 1).toInt ∧ (v3 21 0 1).toInt ≤ (16 : Int) := hI_v3 21 0 1
      have : (1 : Int32).toInt = 1 := (by decide)
      have := i_bd (v3 21 0 1)
      (first | have := sp_addx (v3 21 0 1) (1 : Int32) (by omega) | obtain ⟨k1, hk1⟩ := sp_add (v3 21 0 1) (1 : Int32))
      omega
    have := i_eq (show v4 21 0 1 = ((v3 21 0 1) + 1) by rw [ev4]; exact up3_s)
    have : (0 : Int) ≤ (v3 21 0 1).toInt ∧ (v3 21 0 1).toInt ≤ (16 : Int) := hI_v3 21 0 1
    have : (1 : Int32).toInt = 1 := (by decide)
    have := i_bd (v3 21 0 1)
    (first | have := sp_addx (v3 21 0 1) (1 : Int32) (by omega) | obtain ⟨k2, hk2⟩ := sp_add (v3 21 0 1) (1 : Int32))
    refine ok_some ?_
    show PW rgX v4
    exact hI_v4
theorem k_X1_given : ∀ (n : Nat) (v : Mm), PW rgX v → ∀ (a1 a2 : Int32), a2.toInt ≤ 21 ∧ 21 < a2.toInt + (n : Int) → ok (g_X1_given n v a1 a2) (fun z => PW rgX z.2) := by
  intro n
  induction n with
  | zero => intro v hI a1 a2 h; exfalso; omega
  | succ n ih =>
    intro v hI a1 a2 h
    show ok (b_X1_given (g_X1_given n) v a1 a2) _
    unfold b_X1_given
    have e1 : (1 : Int32).toInt = 1 := by decide
    have e20 : (20 : Int32).toInt = 20 := by decide
    refine ok_ite _ (fun c0 => ?_) (fun c0 => ok_some hI)
    have h0 := i_le c0
    obtain ⟨k, hk⟩ := sp_add a2 1
    have R : ∀ (w : Mm), PW rgX w → ∀ b : Int32, ok (g_X1_given n w b (a2 + 1)) (fun z => PW rgX z.2) := fun w hw b => ih w hw b (a2 + 1) (by have := i_bd a2; omega)
    refine ok_bind (k_X1_leave v hI a1) (fun v4 h4 => ?_)
    have h4 : PW rgX v4 := h4
    refine ok_ite _ (fun _ => ?_) (fun _ => ?_)
    · exact ok_some h4
    refine ok_ite _ (fun _ => ?_) (fun _ => ?_)
    · exact ok_kb2 (R v4 h4 10) (fun r w q => ok_bind (k_X1_markBody w q) (fun r1 _ => ok_kb2 (R w q r1) (fun r w q => ok_some q)))
    refine ok_ite _ (fun _ => ?_) (fun _ => ?_)
    · exact ok_kb2 (R v4 h4 11) (fun r w q => ok_some q)
    refine ok_ite _ (fun _ => ?_) (fun _ => ?_)
    · exact ok_kb2 (R v4 h4 10) (fun r w q => ok_some q)
    refine ok_ite _ (fun _ => ?_) (fun _ => ?_)
    · exact ok_kb2 (R v4 h4 13) (fun r w q => ok_some q)
    refine ok_ite _ (fun _ => ?_) (fun _ => ?_)
    · exact ok_some h4
    refine ok_ite _ (fun _ => ?_) (fun _ => ?_)
    · exact ok_some h4
    refine ok_ite _ (fun _ => ?_) (fun _ => ?_)
    · exact ok_some h4
    refine ok_ite _ (fun _ => ?_) (fun _ => ?_)
    · exact ok_some h4
    refine ok_ite _ (fun _ => ?_) (fun _ => ?_)
    · exact ok_some h4
    refine ok_ite _ (fun _ => ?_) (fun _ => ?_)
    · exact ok_some h4
    refine ok_ite _ (fun _ => ?_) (fun _ => ?_)
    · exact ok_kb2 (R v4 h4 20) (fun r w q => ok_some q)
    refine ok_ite _ (fun _ => ?_) (fun _ => ?_)
    · exact ok_kb2 (R v4 h4 21) (fun r w q => ok_some q)
    refine ok_ite _ (fun _ => ?_) (fun _ => ?_)
    · exact ok_kb2 (R v4 h4 20) (fun r w q => ok_bind (k_X1_sizeBody w q) (fun r1 _ => ok_kb2 (R w q r1) (fun r w q => ok_some q)))
    refine ok_ite _ (fun _ => ?_) (fun _ => ?_)
    · exact ok_kb2 (R v4 h4 21) (fun r w q => ok_some q)
    exact ok_some h4
set_option maxHeartbeats 4000000 in
theorem k_X1_answer (v : Mm) (hI_v : PW rgX v) (a1 : Int32) : ok (g_X1_answer v a1) (fun z => PW rgX z.2) := by
  unfold g_X1_answer
  refine ok_ite _ (fun c1 => ?_) (fun c1 => ?_)
  · skip
    have ic1 := i_eq c1
    have : (0 : Int32).toInt = 0 := (by decide)
    refine ok_bind (k_X1_sizeBody v hI_v  ) (fun r3 hr3 => ?_)
    clear hr3
    refine ok_kb2 (k_X1_given 30 v hI_v r3 0 (by rw [show (0 : Int32).toInt = 0 by decide]; omega)) (fun r6 v7 hr6 => ?_)
    replace hr6 : PW rgX v7 := hr6
    have hI_v7 := hr6
    clear hr6
    refine ok_some ?_
    show PW rgX v7
    exact hI_v7
  · skip
    have ic1 := i_ne c1
    have : (0 : Int32).toInt = 0 := (by decide)
    refine ok_bind (k_X1_markBody v hI_v  ) (fun r9 hr9 => ?_)
    clear hr9
    refine ok_kb2 (k_X1_given 30 v hI_v r9 0 (by rw [show (0 : Int32).toInt = 0 by decide]; omega)) (fun r12 v13 hr12 => ?_)
    replace hr12 : PW rgX v13 := hr12
    have hI_v13 := hr12
    clear hr12
    refine ok_some ?_
    show PW rgX v13
    exact hI_v13
set_option maxHeartbeats 4000000 in
theorem k_X2_become (v : Mm) (hI_v : PW rgX v) (i0 : Nat) (i1 : Nat) : ok (g_X2_become v i0 i1) (fun z => PW rgX z) := by
  unfold g_X2_become
  refine ok_let (fun v1 ev1 => ?_)
  have hI_v1 : PW rgX v1 := by rw [ev1]; exact hI_v.cpy (fun _ _ => rfl)
  have := i_eq (show v1 6 i0 4 = v 6 i0 4 by rw [ev1]; exact cpy3_t (by decide))
  have := i_eq (show v1 6 i0 5 = v 6 i0 5 by rw [ev1]; exact cpy3_t (by decide))
  have := i_eq (show v1 6 i0 6 = v 6 i0 6 by rw [ev1]; exact cpy3_t (by decide))
  have := i_eq (show v1 6 i0 7 = v 6 i0 7 by rw [ev1]; exact cpy3_t (by decide))
  have := i_eq (show v1 6 i1 4 = v 6 i1 4 by rw [ev1]; exact cpy3_t (by decide))
  have := i_eq (show v1 6 i1 5 = v 6 i1 5 by rw [ev1]; exact cpy3_t (by decide))
  have := i_eq (show v1 6 i1 6 = v 6 i1 6 by rw [ev1]; exact cpy3_t (by decide))
  have := i_eq (show v1 6 i1 7 = v 6 i1 7 by rw [ev1]; exact cpy3_t (by decide))
  refine ok_let (fun v2 ev2 => ?_)
  have hI_v2 : PW rgX v2 := by rw [ev2]; exact hI_v1.cpy (fun _ _ => rfl)
  have := i_eq (show v2 6 i0 4 = v1 6 i0 4 by rw [ev2]; exact cpy3_t (by decide))
  have := i_eq (show v2 6 i0 5 = v1 6 i0 5 by rw [ev2]; exact cpy3_t (by decide))
  have := i_eq (show v2 6 i0 6 = v1 6 i0 6 by rw [ev2]; exact cpy3_t (by decide))
  have := i_eq (show v2 6 i0 7 = v1 6 i0 7 by rw [ev2]; exact cpy3_t (by decide))
  have := i_eq (show v2 6 i1 4 = v1 6 i1 4 by rw [ev2]; exact cpy3_t (by decide))
  have := i_eq (show v2 6 i1 5 = v1 6 i1 5 by rw [ev2]; exact cpy3_t (by decide))
  have := i_eq (show v2 6 i1 6 = v1 6 i1 6 by rw [ev2]; exact cpy3_t (by decide))
  have := i_eq (show v2 6 i1 7 = v1 6 i1 7 by rw [ev2]; exact cpy3_t (by decide))
  refine ok_let (fun v3 ev3 => ?_)
  have hI_v3 : PW rgX v3 := by rw [ev3]; exact hI_v2.cpy (fun _ _ => rfl)
  have := i_eq (show v3 6 i0 4 = v2 6 i0 4 by rw [ev3]; exact cpy3_t (by decide))
  have := i_eq (show v3 6 i0 5 = v2 6 i0 5 by rw [ev3]; exact cpy3_t (by decide))
  have := i_eq (show v3 6 i0 6 = v2 6 i0 6 by rw [ev3]; exact cpy3_t (by decide))
  have := i_eq (show v3 6 i0 7 = v2 6 i0 7 by rw [ev3]; exact cpy3_t (by decide))
  have := i_eq (show v3 6 i1 4 = v2 6 i1 4 by rw [ev3]; exact cpy3_t (by decide))
  have := i_eq (show v3 6 i1 5 = v2 6 i1 5 by rw [ev3]; exact cpy3_t (by decide))
  have := i_eq (show v3 6 i1 6 = v2 6 i1 6 by rw [ev3]; exact cpy3_t (by decide))
  have := i_eq (show v3 6 i1 7 = v2 6 i1 7 by rw [ev3]; exact cpy3_t (by decide))
  refine ok_bind (k_X4_become v3 hI_v3 i0 i1 ) (fun v6 hr5 => ?_)
  replace hr5 : PW rgX v6 ∧ (i0 = 0 ∨ Int32.toInt (v6 10 0 4) = Int32.toInt (v3 10 0 4)) := hr5
  obtain ⟨hI_v6, hr5_p0⟩ := hr5
  have : (0 : Int) ≤ (v3 10 0 4).toInt ∧ (v3 10 0 4).toInt ≤ (999 : Int) := hI_v3 10 0 4
  refine ok_let (fun v7 ev7 => ?_)
  have hI_v7 : PW rgX v7 := by
    rw [ev7]
    refine hI_v6.up ?_
    show (0 : Int) ≤ Int32.toInt (v6 6 i1 4) ∧ Int32.toInt (v6 6 i1 4) ≤ (9 : Int)
    have : (0 : Int) ≤ (v6 6 i1 4).toInt ∧ (v6 6 i1 4).toInt ≤ (9 : Int) := hI_v6 6 i1 4
    omega
  have := i_eq (show v7 6 i0 4 = (v6 6 i1 4) by rw [ev7]; exact up3_s)
  have : (0 : Int) ≤ (v6 6 i1 4).toInt ∧ (v6 6 i1 4).toInt ≤ (9 : Int) := hI_v6 6 i1 4
  have := i_eq (show v7 6 i0 5 = v6 6 i0 5 by rw [ev7]; exact up3_j (by decide))
  have := i_eq (show v7 6 i0 6 = v6 6 i0 6 by rw [ev7]; exact up3_j (by decide))
  have := i_eq (show v7 6 i0 7 = v6 6 i0 7 by rw [ev7]; exact up3_j (by decide))
  have := i_eq (show v7 6 i1 5 = v6 6 i1 5 by rw [ev7]; exact up3_j (by decide))
  have := i_eq (show v7 6 i1 6 = v6 6 i1 6 by rw [ev7]; exact up3_j (by decide))
  have := i_eq (show v7 6 i1 7 = v6 6 i1 7 by rw [ev7]; exact up3_j (by decide))
  refine ok_let (fun v8 ev8 => ?_)
  have hI_v8 : PW rgX v8 := by
    rw [ev8]
    refine hI_v7.up ?_
    show (0 : Int) ≤ Int32.toInt (v7 6 i1 5) ∧ Int32.toInt (v7 6 i1 5) ≤ (6 : Int)
    have : (0 : Int) ≤ (v7 6 i1 5).toInt ∧ (v7 6 i1 5).toInt ≤ (6 : Int) := hI_v7 6 i1 5
    omega
  have := i_eq (show v8 6 i0 4 = v7 6 i0 4 by rw [ev8]; exact up3_j (by decide))
  have := i_eq (show v8 6 i0 5 = (v7 6 i1 5) by rw [ev8]; exact up3_s)
  have : (0 : Int) ≤ (v7 6 i1 5).toInt ∧ (v7 6 i1 5).toInt ≤ (6 : Int) := hI_v7 6 i1 5
  have := i_eq (show v8 6 i0 6 = v7 6 i0 6 by rw [ev8]; exact up3_j (by decide))
  have := i_eq (show v8 6 i0 7 = v7 6 i0 7 by rw [ev8]; exact up3_j (by decide))
  have := i_eq (show v8 6 i1 4 = v7 6 i1 4 by rw [ev8]; exact up3_j (by decide))
  have := i_eq (show v8 6 i1 6 = v7 6 i1 6 by rw [ev8]; exact up3_j (by decide))
  have := i_eq (show v8 6 i1 7 = v7 6 i1 7 by rw [ev8]; exact up3_j (by decide))
  refine ok_let (fun v9 ev9 => ?_)
  have hI_v9 : PW rgX v9 := by
    rw [ev9]
    refine hI_v8.up ?_
    show (0 : Int) ≤ Int32.toInt (v8 6 i1 6) ∧ Int32.toInt (v8 6 i1 6) ≤ (6 : Int)
    have : (0 : Int) ≤ (v8 6 i1 6).toInt ∧ (v8 6 i1 6).toInt ≤ (6 : Int) := hI_v8 6 i1 6
    omega
  have := i_eq (show v9 6 i0 4 = v8 6 i0 4 by rw [ev9]; exact up3_j (by decide))
  have := i_eq (show v9 6 i0 5 = v8 6 i0 5 by rw [ev9]; exact up3_j (by decide))
  have := i_eq (show v9 6 i0 6 = (v8 6 i1 6) by rw [ev9]; exact up3_s)
  have : (0 : Int) ≤ (v8 6 i1 6).toInt ∧ (v8 6 i1 6).toInt ≤ (6 : Int) := hI_v8 6 i1 6
  have := i_eq (show v9 6 i0 7 = v8 6 i0 7 by rw [ev9]; exact up3_j (by decide))
  have := i_eq (show v9 6 i1 4 = v8 6 i1 4 by rw [ev9]; exact up3_j (by decide))
  have := i_eq (show v9 6 i1 5 = v8 6 i1 5 by rw [ev9]; exact up3_j (by decide))
  have := i_eq (show v9 6 i1 7 = v8 6 i1 7 by rw [ev9]; exact up3_j (by decide))
  refine ok_let (fun v10 ev10 => ?_)
  have hI_v10 : PW rgX v10 := by
    rw [ev10]
    refine hI_v9.up ?_
    show (0 : Int) ≤ Int32.toInt (v9 6 i1 7) ∧ Int32.toInt (v9 6 i1 7) ≤ (4 : Int)
    have : (0 : Int) ≤ (v9 6 i1 7).toInt ∧ (v9 6 i1 7).toInt ≤ (4 : Int) := hI_v9 6 i1 7
    omega
  have := i_eq (show v10 6 i0 4 = v9 6 i0 4 by rw [ev10]; exact up3_j (by decide))
  have := i_eq (show v10 6 i0 5 = v9 6 i0 5 by rw [ev10]; exact up3_j (by decide))
  have := i_eq (show v10 6 i0 6 = v9 6 i0 6 by rw [ev10]; exact up3_j (by decide))
  have := i_eq (show v10 6 i0 7 = (v9 6 i1 7) by rw [ev10]; exact up3_s)
  have : (0 : Int) ≤ (v9 6 i1 7).toInt ∧ (v9 6 i1 7).toInt ≤ (4 : Int) := hI_v9 6 i1 7
  have := i_eq (show v10 6 i1 4 = v9 6 i1 4 by rw [ev10]; exact up3_j (by decide))
  have := i_eq (show v10 6 i1 5 = v9 6 i1 5 by rw [ev10]; exact up3_j (by decide))
  have := i_eq (show v10 6 i1 6 = v9 6 i1 6 by rw [ev10]; exact up3_j (by decide))
  refine ok_some ?_
  show PW rgX v10
  exact hI_v10
set_option maxHeartbeats 4000000 in
theorem k_X2_secretBy (v : Mm) (hI_v : PW rgX v) (i0 : Nat) (a1 : Int32) (a2 : Int32) (a3 : Int32) (a4 : Int32) (h_a1 : (0 : Int) ≤ a1.toInt ∧ a1.toInt ≤ (9 : Int)) (h_a2 : (0 : Int) ≤ a2.toInt ∧ a2.toInt ≤ (9 : Int)) (h_a4 : (0 : Int) ≤ a4.toInt ∧ a4.toInt ≤ (1100 : Int)) : ok (g_X2_secretBy v i0 a1 a2 a3 a4) (fun z => (0 : Int) ≤ Int32.toInt z ∧ Int32.toInt z ≤ (5 : Int)) := by
  unfold g_X2_secretBy
  refine ok_ite _ (fun c1 => ?_) (fun c1 => ?_)
  · skip
    have ic1 := i_eq c1
    have : (7 : Int32).toInt = 7 := (by decide)
    (try have := sp_rem (a := a4) (b := (7 : Int32)) (by omega) (by omega))
    refine ok_some ?_
    show (0 : Int) ≤ Int32.toInt (0 : Int32) ∧ Int32.toInt (0 : Int32) ≤ (5 : Int)
    have : (0 : Int32).toInt = 0 := (by decide)
    omega
  · skip
    have ic1 := i_ne c1
    have : (7 : Int32).toInt = 7 := (by decide)
    (try have := sp_rem (a := a4) (b := (7 : Int32)) (by omega) (by omega))
    refine ok_bind (k_X7_rest v hI_v (a1 + (a2 * a4)) (v 6 i0 6) (by have : 0 ≤ (a2 * a4).toInt ∧ (a2 * a4).toInt ≤ 9900 := sp_mulr 9 1100 (by omega) (by omega) (by omega) (by omega) (by omega); have := i_bd a1; (first | have := sp_addx a1 (a2 * a4) (by omega) | obtain ⟨k2, hk2⟩ := sp_add a1 (a2 * a4)); omega) (by have : (0 : Int) ≤ (v 6 i0 6).toInt ∧ (v 6 i0 6).toInt ≤ (6 : Int) := hI_v 6 i0 6; omega)) (fun r3 hr3 => ?_)
    replace hr3 : ((0 : Int) ≤ Int32.toInt r3) ∧ (Int32.toInt r3 ≤ Int32.toInt (v 6 i0 6)) ∧ ((0 < Int32.toInt (v 6 i0 6) → Int32.toInt r3 < Int32.toInt (v 6 i0 6))) := hr3
    obtain ⟨hr3_p0, hr3_p1, hr3_p2⟩ := hr3
    have : (0 : Int) ≤ (v 6 i0 6).toInt ∧ (v 6 i0 6).toInt ≤ (6 : Int) := hI_v 6 i0 6
    have : 0 ≤ (a2 * a4).toInt ∧ (a2 * a4).toInt ≤ 9900 := sp_mulr 9 1100 (by omega) (by omega) (by omega) (by omega) (by omega)
    have := i_bd a1
    (first | have := sp_addx a1 (a2 * a4) (by omega) | obtain ⟨k4, hk4⟩ := sp_add a1 (a2 * a4))
    have : (0 : Int) ≤ (v 6 i0 6).toInt ∧ (v 6 i0 6).toInt ≤ (6 : Int) := hI_v 6 i0 6
    refine ok_some ?_
    show (0 : Int) ≤ Int32.toInt r3 ∧ Int32.toInt r3 ≤ (5 : Int)
    omega
set_option maxHeartbeats 4000000 in
theorem k_X2_secretIn (v : Mm) (hI_v : PW rgX v) (i0 : Nat) (a1 : Int32) (h_a1 : (0 : Int) ≤ a1.toInt ∧ a1.toInt ≤ (60 : Int)) : ok (g_X2_secretIn v i0 a1) (fun z => (0 : Int) ≤ Int32.toInt z ∧ Int32.toInt z ≤ (5 : Int)) := by
  unfold g_X2_secretIn
  refine ok_bind (k_X2_secretBy v hI_v i0 (v 10 i0 5) (v 6 i0 4) (v 6 i0 5) ((v 10 i0 4) + a1) (by have : (0 : Int) ≤ (v 10 i0 5).toInt ∧ (v 10 i0 5).toInt ≤ (9 : Int) := hI_v 10 i0 5; omega) (by have : (0 : Int) ≤ (v 6 i0 4).toInt ∧ (v 6 i0 4).toInt ≤ (9 : Int) := hI_v 6 i0 4; omega) (by have : (0 : Int) ≤ (v 10 i0 4).toInt ∧ (v 10 i0 4).toInt ≤ (999 : Int) := hI_v 10 i0 4; have := i_bd (v 10 i0 4); have := i_bd a1; (first | have := sp_addx (v 10 i0 4) a1 (by omega) | obtain ⟨k1, hk1⟩ := sp_add (v 10 i0 4) a1); omega)) (fun r2 hr2 => ?_)
  replace hr2 : (0 : Int) ≤ Int32.toInt r2 ∧ Int32.toInt r2 ≤ (5 : Int) := hr2
  obtain ⟨hr2_lo, hr2_hi⟩ := hr2
  refine ok_some ?_
  show (0 : Int) ≤ Int32.toInt r2 ∧ Int32.toInt r2 ≤ (5 : Int)
  omega
set_option maxHeartbeats 4000000 in
theorem k_X2_distance (v : Mm) (hI_v : PW rgX v) (i0 : Nat) (a1 : Int32) (a2 : Int32) (h_a1 : (0 : Int) ≤ a1.toInt ∧ a1.toInt ≤ (5 : Int)) (h_a2 : (0 : Int) ≤ a2.toInt ∧ a2.toInt ≤ (5 : Int)) : ok (g_X2_distance v i0 a1 a2) (fun z => (0 : Int) ≤ Int32.toInt z ∧ Int32.toInt z ≤ (3 : Int)) := by
  have loop5 : ∀ (n5 : Nat) (x3_5 : Int32) (x4_5 : Int32), ((0 : Int) ≤ Int32.toInt x3_5 ∧ Int32.toInt x3_5 ≤ (3 : Int)) → ((0 : Int) ≤ Int32.toInt x4_5 ∧ Int32.toInt x4_5 ≤ (3 : Int)) → (Int32.toInt x3_5 ≤ Int32.toInt x4_5) → (3 - Int32.toInt x4_5 < (n5 : Int)) → ok (g_X2_distance_L5  v i0 a1 a2 n5 x3_5 x4_5) (fun z => (0 : Int) ≤ Int32.toInt z ∧ Int32.toInt z ≤ (3 : Int)) := by
    intro n5
    induction n5 with
    | zero =>
      intro x3_5 x4_5 hv0_5 hv1_5 hv2_5 hm5
      exfalso
      omega
    | succ n5 ih5 =>
      intro x3_5 x4_5 hv0_5 hv1_5 hv2_5 hm5
      show ok (b_X2_distance_L5  (g_X2_distance_L5  v i0 a1 a2 n5) v i0 a1 a2 x3_5 x4_5) _
      unfold b_X2_distance_L5
      refine ok_ite _ (fun c1 => ?_) (fun c1 => ?_)
      · skip
        have ic1 := i_le c1
        have : (3 : Int32).toInt = 3 := (by decide)
        refine ok_some ?_
        show (0 : Int) ≤ Int32.toInt x3_5 ∧ Int32.toInt x3_5 ≤ (3 : Int)
        omega
      · skip
        have ic1 := i_nle c1
        have : (3 : Int32).toInt = 3 := (by decide)
        refine ok_grd _ ?_ ?_
        · skip
          have : (3 : Int32).toInt = 3 := (by decide)
          (first | have := sp_mulcx a1 (3 : Int32) 3 (by decide) (by omega) | obtain ⟨k1, hk1⟩ := sp_mulc a1 (3 : Int32) 3 (by decide))
          have := i_bd x4_5
          (first | have := sp_addx (a1 * 3) x4_5 (by omega) | obtain ⟨k2, hk2⟩ := sp_add (a1 * 3) x4_5)
          exact gr (by omega) (by omega)
        refine ok_grd _ ?_ ?_
        · skip
          have : (3 : Int32).toInt = 3 := (by decide)
          (first | have := sp_mulcx a2 (3 : Int32) 3 (by decide) (by omega) | obtain ⟨k3, hk3⟩ := sp_mulc a2 (3 : Int32) 3 (by decide))
          have := i_bd x4_5
          (first | have := sp_addx (a2 * 3) x4_5 (by omega) | obtain ⟨k4, hk4⟩ := sp_add (a2 * 3) x4_5)
          exact gr (by omega) (by omega)
        refine ok_ite _ (fun c4 => ?_) (fun c4 => ?_)
        · skip
          have ic4 := i_eq c4
          have : (1 : Int32).toInt = 1 := (by decide)
          have := i_bd x4_5
          (first | have := sp_addx x4_5 (1 : Int32) (by omega) | obtain ⟨k5, hk5⟩ := sp_add x4_5 (1 : Int32))
          exact ih5 x3_5 (x4_5 + 1) (by omega) (by omega) (by omega) (by omega)
        · skip
          have ic4 := i_ne c4
          have : (1 : Int32).toInt = 1 := (by decide)
          have := i_bd x3_5
          (first | have := sp_addx x3_5 (1 : Int32) (by omega) | obtain ⟨k6, hk6⟩ := sp_add x3_5 (1 : Int32))
          have := i_bd x4_5
          (first | have := sp_addx x4_5 (1 : Int32) (by omega) | obtain ⟨k7, hk7⟩ := sp_add x4_5 (1 : Int32))
          exact ih5 (x3_5 + 1) (x4_5 + 1) (by omega) (by omega) (by omega) (by omega)
  unfold g_X2_distance
  have : (0 : Int32).toInt = 0 := (by decide)
  exact loop5 2000 0 0 (by omega) (by omega) (by omega) (by omega)
set_option maxHeartbeats 4000000 in
theorem k_X2_lips (v : Mm) (hI_v : PW rgX v) (i0 : Nat) (a1 : Int32) (a2 : Int32) (h_a1 : (0 : Int) ≤ a1.toInt ∧ a1.toInt ≤ (5 : Int)) (h_a2 : (0 : Int) ≤ a2.toInt ∧ a2.toInt ≤ (5 : Int)) : ok (g_X2_lips v i0 a1 a2) (fun z => (0 : Int) ≤ Int32.toInt z ∧ Int32.toInt z ≤ (3 : Int)) := by
  have loop5 : ∀ (n5 : Nat) (x3_5 : Int32) (x4_5 : Int32), ((0 : Int) ≤ Int32.toInt x3_5 ∧ Int32.toInt x3_5 ≤ (3 : Int)) → ((0 : Int) ≤ Int32.toInt x4_5 ∧ Int32.toInt x4_5 ≤ (3 : Int)) → (Int32.toInt x3_5 ≤ Int32.toInt x4_5) → (3 - Int32.toInt x4_5 < (n5 : Int)) → ok (g_X2_lips_L5  v i0 a1 a2 n5 x3_5 x4_5) (fun z => (0 : Int) ≤ Int32.toInt z ∧ Int32.toInt z ≤ (3 : Int)) := by
    intro n5
    induction n5 with
    | zero =>
      intro x3_5 x4_5 hv0_5 hv1_5 hv2_5 hm5
      exfalso
      omega
    | succ n5 ih5 =>
      intro x3_5 x4_5 hv0_5 hv1_5 hv2_5 hm5
      show ok (b_X2_lips_L5  (g_X2_lips_L5  v i0 a1 a2 n5) v i0 a1 a2 x3_5 x4_5) _
      unfold b_X2_lips_L5
      refine ok_ite _ (fun c1 => ?_) (fun c1 => ?_)
      · skip
        have ic1 := i_le c1
        have : (3 : Int32).toInt = 3 := (by decide)
        refine ok_some ?_
        show (0 : Int) ≤ Int32.toInt x3_5 ∧ Int32.toInt x3_5 ≤ (3 : Int)
        omega
      · skip
        have ic1 := i_nle c1
        have : (3 : Int32).toInt = 3 := (by decide)
        refine ok_grd _ ?_ ?_
        · skip
          have : (3 : Int32).toInt = 3 := (by decide)
          (first | have := sp_mulcx a1 (3 : Int32) 3 (by decide) (by omega) | obtain ⟨k1, hk1⟩ := sp_mulc a1 (3 : Int32) 3 (by decide))
          have := i_bd x4_5
          (first | have := sp_addx (a1 * 3) x4_5 (by omega) | obtain ⟨k2, hk2⟩ := sp_add (a1 * 3) x4_5)
          exact gr (by omega) (by omega)
        refine ok_grd _ ?_ ?_
        · skip
          have : (3 : Int32).toInt = 3 := (by decide)
          (first | have := sp_mulcx a2 (3 : Int32) 3 (by decide) (by omega) | obtain ⟨k3, hk3⟩ := sp_mulc a2 (3 : Int32) 3 (by decide))
          have := i_bd x4_5
          (first | have := sp_addx (a2 * 3) x4_5 (by omega) | obtain ⟨k4, hk4⟩ := sp_add (a2 * 3) x4_5)
          exact gr (by omega) (by omega)
        refine ok_ite _ (fun c4 => ?_) (fun c4 => ?_)
        · skip
          have ic4 := i_eq c4
          have : (5 : Int32).toInt = 5 := (by decide)
          (try have := sp_rem (a := (v 7 i0 (Int32.toNatClampNeg ((a1 * 3) + x4_5)))) (b := (5 : Int32)) (by omega) (by omega))
          (try have := sp_rem (a := (v 7 i0 (Int32.toNatClampNeg ((a2 * 3) + x4_5)))) (b := (5 : Int32)) (by omega) (by omega))
          have : (1 : Int32).toInt = 1 := (by decide)
          have := i_bd x3_5
          (first | have := sp_addx x3_5 (1 : Int32) (by omega) | obtain ⟨k5, hk5⟩ := sp_add x3_5 (1 : Int32))
          have := i_bd x4_5
          (first | have := sp_addx x4_5 (1 : Int32) (by omega) | obtain ⟨k6, hk6⟩ := sp_add x4_5 (1 : Int32))
          exact ih5 (x3_5 + 1) (x4_5 + 1) (by omega) (by omega) (by omega) (by omega)
        · skip
          have ic4 := i_ne c4
          have : (5 : Int32).toInt = 5 := (by decide)
          (try have := sp_rem (a := (v 7 i0 (Int32.toNatClampNeg ((a1 * 3) + x4_5)))) (b := (5 : Int32)) (by omega) (by omega))
          (try have := sp_rem (a := (v 7 i0 (Int32.toNatClampNeg ((a2 * 3) + x4_5)))) (b := (5 : Int32)) (by omega) (by omega))
          have : (1 : Int32).toInt = 1 := (by decide)
          have := i_bd x4_5
          (first | have := sp_addx x4_5 (1 : Int32) (by omega) | obtain ⟨k7, hk7⟩ := sp_add x4_5 (1 : Int32))
          exact ih5 x3_5 (x4_5 + 1) (by omega) (by omega) (by omega) (by omega)
  unfold g_X2_lips
  have : (0 : Int32).toInt = 0 := (by decide)
  exact loop5 2000 0 0 (by omega) (by omega) (by omega) (by omega)
set_option maxHeartbeats 4000000 in
theorem k_X2_guardOn (v : Mm) (hI_v : PW rgX v) (i0 : Nat) (a1 : Int32) (a2 : Int32) (h_a1 : (0 : Int) ≤ a1.toInt ∧ a1.toInt ≤ (1100 : Int)) (h_a2 : (0 : Int) ≤ a2.toInt ∧ a2.toInt ≤ (6 : Int)) : ok (g_X2_guardOn v i0 a1 a2) (fun z => (0 : Int) ≤ Int32.toInt z ∧ Int32.toInt z ≤ (3 : Int)) := by
  unfold g_X2_guardOn
  refine ok_bind (k_X7_rest v hI_v (a1 + a2) (v 6 i0 7) (by have := i_bd a1; have := i_bd a2; (first | have := sp_addx a1 a2 (by omega) | obtain ⟨k1, hk1⟩ := sp_add a1 a2); omega) (by have : (0 : Int) ≤ (v 6 i0 7).toInt ∧ (v 6 i0 7).toInt ≤ (4 : Int) := hI_v 6 i0 7; omega)) (fun r2 hr2 => ?_)
  replace hr2 : ((0 : Int) ≤ Int32.toInt r2) ∧ (Int32.toInt r2 ≤ Int32.toInt (v 6 i0 7)) ∧ ((0 < Int32.toInt (v 6 i0 7) → Int32.toInt r2 < Int32.toInt (v 6 i0 7))) := hr2
  obtain ⟨hr2_p0, hr2_p1, hr2_p2⟩ := hr2
  have : (0 : Int) ≤ (v 6 i0 7).toInt ∧ (v 6 i0 7).toInt ≤ (4 : Int) := hI_v 6 i0 7
  have := i_bd a1
  have := i_bd a2
  (first | have := sp_addx a1 a2 (by omega) | obtain ⟨k2, hk2⟩ := sp_add a1 a2)
  have : (0 : Int) ≤ (v 6 i0 7).toInt ∧ (v 6 i0 7).toInt ≤ (4 : Int) := hI_v 6 i0 7
  refine ok_some ?_
  show (0 : Int) ≤ Int32.toInt r2 ∧ Int32.toInt r2 ≤ (3 : Int)
  omega
set_option maxHeartbeats 4000000 in
theorem k_X2_isThere (v : Mm) (hI_v : PW rgX v) (i0 : Nat) (a1 : Int32) : ok (g_X2_isThere v i0 a1) (fun z => (0 : Int) ≤ Int32.toInt z ∧ Int32.toInt z ≤ (1 : Int)) := by
  unfold g_X2_isThere
  refine ok_ite _ (fun c1 => ?_) (fun c1 => ?_)
  · skip
    have ic1 := i_eq c1
    have : (1 : Int32).toInt = 1 := (by decide)
    (try have := sp_andl (a := ((v 10 i0 6) >>> (a1 &&& 31))) (b := (1 : Int32)) (by omega) (by omega))
    (try have := sp_and64 (a := ((v 10 i0 6) >>> (a1 &&& 31))) (b := (1 : Int32)) (by omega) (by omega) (by omega) (by omega))
    refine ok_some ?_
    show (0 : Int) ≤ Int32.toInt (1 : Int32) ∧ Int32.toInt (1 : Int32) ≤ (1 : Int)
    have : (1 : Int32).toInt = 1 := (by decide)
    omega
  · skip
    have ic1 := i_ne c1
    have : (1 : Int32).toInt = 1 := (by decide)
    (try have := sp_andl (a := ((v 10 i0 6) >>> (a1 &&& 31))) (b := (1 : Int32)) (by omega) (by omega))
    (try have := sp_and64 (a := ((v 10 i0 6) >>> (a1 &&& 31))) (b := (1 : Int32)) (by omega) (by omega) (by omega) (by omega))
    refine ok_some ?_
    show (0 : Int) ≤ Int32.toInt (0 : Int32) ∧ Int32.toInt (0 : Int32) ≤ (1 : Int)
    have : (0 : Int32).toInt = 0 := (by decide)
    omega
set_option maxHeartbeats 4000000 in
theorem k_X2_wouldTake (v : Mm) (hI_v : PW rgX v) (i0 : Nat) (a1 : Int32) (a2 : Int32) (a3 : Int32) (a4 : Int32) (h_a2 : (0 : Int) ≤ a2.toInt ∧ a2.toInt ≤ (5 : Int)) (h_a3 : (0 : Int) ≤ a3.toInt ∧ a3.toInt ≤ (5 : Int)) : ok (g_X2_wouldTake v i0 a1 a2 a3 a4) (fun z => (0 : Int) ≤ Int32.toInt z ∧ Int32.toInt z ≤ (1 : Int)) := by
  unfold g_X2_wouldTake
  refine ok_ite _ (fun c1 => ?_) (fun c1 => ?_)
  · skip
    have ic1 := i_eq c1
    have : (1 : Int32).toInt = 1 := (by decide)
    refine ok_bind (k_X2_distance v hI_v i0 a2 a3 (by omega) (by omega)) (fun r3 hr3 => ?_)
    replace hr3 : (0 : Int) ≤ Int32.toInt r3 ∧ Int32.toInt r3 ≤ (3 : Int) := hr3
    obtain ⟨hr3_lo, hr3_hi⟩ := hr3
    refine ok_ite _ (fun c5 => ?_) (fun c5 => ?_)
    · skip
      have ic5 := i_eq c5
      have : (0 : Int32).toInt = 0 := (by decide)
      refine ok_some ?_
      show (0 : Int) ≤ Int32.toInt (1 : Int32) ∧ Int32.toInt (1 : Int32) ≤ (1 : Int)
      have : (1 : Int32).toInt = 1 := (by decide)
      omega
    · skip
      have ic5 := i_ne c5
      have : (0 : Int32).toInt = 0 := (by decide)
      refine ok_some ?_
      show (0 : Int) ≤ Int32.toInt (0 : Int32) ∧ Int32.toInt (0 : Int32) ≤ (1 : Int)
      have : (0 : Int32).toInt = 0 := (by decide)
      omega
  · skip
    have ic1 := i_ne c1
    have : (1 : Int32).toInt = 1 := (by decide)
    refine ok_ite _ (fun c6 => ?_) (fun c6 => ?_)
    · skip
      have ic6 := i_eq c6
      have : (2 : Int32).toInt = 2 := (by decide)
      refine ok_bind (k_X2_distance v hI_v i0 a2 a3 (by omega) (by omega)) (fun r8 hr8 => ?_)
      replace hr8 : (0 : Int) ≤ Int32.toInt r8 ∧ Int32.toInt r8 ≤ (3 : Int) := hr8
      obtain ⟨hr8_lo, hr8_hi⟩ := hr8
      refine ok_ite _ (fun c10 => ?_) (fun c10 => ?_)
      · skip
        have ic10 := i_lt c10
        have : (1 : Int32).toInt = 1 := (by decide)
        refine ok_some ?_
        show (0 : Int) ≤ Int32.toInt (0 : Int32) ∧ Int32.toInt (0 : Int32) ≤ (1 : Int)
        have : (0 : Int32).toInt = 0 := (by decide)
        omega
      · skip
        have ic10 := i_nlt c10
        have : (1 : Int32).toInt = 1 := (by decide)
        refine ok_some ?_
        show (0 : Int) ≤ Int32.toInt (1 : Int32) ∧ Int32.toInt (1 : Int32) ≤ (1 : Int)
        have : (1 : Int32).toInt = 1 := (by decide)
        omega
    · skip
      have ic6 := i_ne c6
      have : (2 : Int32).toInt = 2 := (by decide)
      refine ok_ite _ (fun c11 => ?_) (fun c11 => ?_)
      · skip
        have ic11 := i_eq c11
        have : (3 : Int32).toInt = 3 := (by decide)
        refine ok_ite _ (fun c12 => ?_) (fun c12 => ?_)
        · skip
          have ic12 := i_eq c12
          have : (2 : Int32).toInt = 2 := (by decide)
          (try have := sp_rem (a := a4) (b := (2 : Int32)) (by omega) (by omega))
          have : (0 : Int32).toInt = 0 := (by decide)
          refine ok_bind (k_X2_distance v hI_v i0 a2 a3 (by omega) (by omega)) (fun r14 hr14 => ?_)
          replace hr14 : (0 : Int) ≤ Int32.toInt r14 ∧ Int32.toInt r14 ≤ (3 : Int) := hr14
          obtain ⟨hr14_lo, hr14_hi⟩ := hr14
          refine ok_ite _ (fun c16 => ?_) (fun c16 => ?_)
          · skip
            have ic16 := i_eq c16
            have : (0 : Int32).toInt = 0 := (by decide)
            refine ok_some ?_
            show (0 : Int) ≤ Int32.toInt (1 : Int32) ∧ Int32.toInt (1 : Int32) ≤ (1 : Int)
            have : (1 : Int32).toInt = 1 := (by decide)
            omega
          · skip
            have ic16 := i_ne c16
            have : (0 : Int32).toInt = 0 := (by decide)
            refine ok_some ?_
            show (0 : Int) ≤ Int32.toInt (0 : Int32) ∧ Int32.toInt (0 : Int32) ≤ (1 : Int)
            have : (0 : Int32).toInt = 0 := (by decide)
            omega
        · skip
          have ic12 := i_ne c12
          have : (2 : Int32).toInt = 2 := (by decide)
          (try have := sp_rem (a := a4) (b := (2 : Int32)) (by omega) (by omega))
          have : (0 : Int32).toInt = 0 := (by decide)
          refine ok_some ?_
          show (0 : Int) ≤ Int32.toInt (0 : Int32) ∧ Int32.toInt (0 : Int32) ≤ (1 : Int)
          have : (0 : Int32).toInt = 0 := (by decide)
          omega
      · skip
        have ic11 := i_ne c11
        have : (3 : Int32).toInt = 3 := (by decide)
        refine ok_ite _ (fun c17 => ?_) (fun c17 => ?_)
        · skip
          have ic17 := i_eq c17
          have : (4 : Int32).toInt = 4 := (by decide)
          refine ok_bind (k_X2_lips v hI_v i0 a2 a3 (by omega) (by omega)) (fun r19 hr19 => ?_)
          replace hr19 : (0 : Int) ≤ Int32.toInt r19 ∧ Int32.toInt r19 ≤ (3 : Int) := hr19
          obtain ⟨hr19_lo, hr19_hi⟩ := hr19
          refine ok_ite _ (fun c21 => ?_) (fun c21 => ?_)
          · skip
            have ic21 := i_eq c21
            have : (3 : Int32).toInt = 3 := (by decide)
            refine ok_some ?_
            show (0 : Int) ≤ Int32.toInt (1 : Int32) ∧ Int32.toInt (1 : Int32) ≤ (1 : Int)
            have : (1 : Int32).toInt = 1 := (by decide)
            omega
          · skip
            have ic21 := i_ne c21
            have : (3 : Int32).toInt = 3 := (by decide)
            refine ok_some ?_
            show (0 : Int) ≤ Int32.toInt (0 : Int32) ∧ Int32.toInt (0 : Int32) ≤ (1 : Int)
            have : (0 : Int32).toInt = 0 := (by decide)
            omega
        · skip
          have ic17 := i_ne c17
          have : (4 : Int32).toInt = 4 := (by decide)
          refine ok_ite _ (fun c22 => ?_) (fun c22 => ?_)
          · skip
            have ic22 := i_eq c22
            have : (5 : Int32).toInt = 5 := (by decide)
            refine ok_bind (k_X2_lips v hI_v i0 a2 a3 (by omega) (by omega)) (fun r24 hr24 => ?_)
            replace hr24 : (0 : Int) ≤ Int32.toInt r24 ∧ Int32.toInt r24 ≤ (3 : Int) := hr24
            obtain ⟨hr24_lo, hr24_hi⟩ := hr24
            refine ok_ite _ (fun c26 => ?_) (fun c26 => ?_)
            · skip
              have ic26 := i_lt c26
              have : (2 : Int32).toInt = 2 := (by decide)
              refine ok_some ?_
              show (0 : Int) ≤ Int32.toInt (0 : Int32) ∧ Int32.toInt (0 : Int32) ≤ (1 : Int)
              have : (0 : Int32).toInt = 0 := (by decide)
              omega
            · skip
              have ic26 := i_nlt c26
              have : (2 : Int32).toInt = 2 := (by decide)
              refine ok_some ?_
              show (0 : Int) ≤ Int32.toInt (1 : Int32) ∧ Int32.toInt (1 : Int32) ≤ (1 : Int)
              have : (1 : Int32).toInt = 1 := (by decide)
              omega
          · skip
            have ic22 := i_ne c22
            have : (5 : Int32).toInt = 5 := (by decide)
            refine ok_some ?_
            show (0 : Int) ≤ Int32.toInt (0 : Int32) ∧ Int32.toInt (0 : Int32) ≤ (1 : Int)
            have : (0 : Int32).toInt = 0 := (by decide)
            omega
set_option maxHeartbeats 4000000 in
theorem k_X2_catchesIf (v : Mm) (hI_v : PW rgX v) (i0 : Nat) (a1 : Int32) (a2 : Int32) (a3 : Int32) (a4 : Int32) (h_a1 : (0 : Int) ≤ a1.toInt ∧ a1.toInt ≤ (5 : Int)) (h_a2 : (0 : Int) ≤ a2.toInt ∧ a2.toInt ≤ (5 : Int)) (h_a3 : (0 : Int) ≤ a3.toInt ∧ a3.toInt ≤ (5 : Int)) (h_a4 : (0 : Int) ≤ a4.toInt ∧ a4.toInt ≤ (1100 : Int)) : ok (g_X2_catchesIf v i0 a1 a2 a3 a4) (fun z => (0 : Int) ≤ Int32.toInt z ∧ Int32.toInt z ≤ (1 : Int)) := by
  unfold g_X2_catchesIf
  refine ok_bind (k_X2_guardOn v hI_v i0 a4 a3 (by omega) (by omega)) (fun r2 hr2 => ?_)
  replace hr2 : (0 : Int) ≤ Int32.toInt r2 ∧ Int32.toInt r2 ≤ (3 : Int) := hr2
  obtain ⟨hr2_lo, hr2_hi⟩ := hr2
  refine ok_bind (k_X2_isThere v hI_v i0 r2 ) (fun r5 hr5 => ?_)
  replace hr5 : (0 : Int) ≤ Int32.toInt r5 ∧ Int32.toInt r5 ≤ (1 : Int) := hr5
  obtain ⟨hr5_lo, hr5_hi⟩ := hr5
  refine ok_ite _ (fun c7 => ?_) (fun c7 => ?_)
  · skip
    have ic7 := i_eq c7
    have : (0 : Int32).toInt = 0 := (by decide)
    refine ok_some ?_
    show (0 : Int) ≤ Int32.toInt (0 : Int32) ∧ Int32.toInt (0 : Int32) ≤ (1 : Int)
    have : (0 : Int32).toInt = 0 := (by decide)
    omega
  · skip
    have ic7 : Int32.toInt r5 = 1 := one_of hr5_lo hr5_hi c7
    have : (0 : Int32).toInt = 0 := (by decide)
    refine ok_grd _ ?_ ?_
    · skip
      exact gr (by omega) (by omega)
    refine ok_bind (k_X2_wouldTake v hI_v i0 (v 8 i0 (Int32.toNatClampNeg r2)) a2 a1 a4 (by omega) (by omega)) (fun r10 hr10 => ?_)
    replace hr10 : (0 : Int) ≤ Int32.toInt r10 ∧ Int32.toInt r10 ≤ (1 : Int) := hr10
    obtain ⟨hr10_lo, hr10_hi⟩ := hr10
    refine ok_ite _ (fun c12 => ?_) (fun c12 => ?_)
    · skip
      have ic12 := i_eq c12
      have : (0 : Int32).toInt = 0 := (by decide)
      refine ok_some ?_
      show (0 : Int) ≤ Int32.toInt (0 : Int32) ∧ Int32.toInt (0 : Int32) ≤ (1 : Int)
      have : (0 : Int32).toInt = 0 := (by decide)
      omega
    · skip
      have ic12 : Int32.toInt r10 = 1 := one_of hr10_lo hr10_hi c12
      have : (0 : Int32).toInt = 0 := (by decide)
      refine ok_some ?_
      show (0 : Int) ≤ Int32.toInt (1 : Int32) ∧ Int32.toInt (1 : Int32) ≤ (1 : Int)
      have : (1 : Int32).toInt = 1 := (by decide)
      omega
set_option maxHeartbeats 4000000 in
theorem k_X2_catches (v : Mm) (hI_v : PW rgX v) (i0 : Nat) (a1 : Int32) (a2 : Int32) (a3 : Int32) (h_a1 : (0 : Int) ≤ a1.toInt ∧ a1.toInt ≤ (5 : Int)) (h_a2 : (0 : Int) ≤ a2.toInt ∧ a2.toInt ≤ (5 : Int)) (h_a3 : (0 : Int) ≤ a3.toInt ∧ a3.toInt ≤ (60 : Int)) : ok (g_X2_catches v i0 a1 a2 a3) (fun z => (0 : Int) ≤ Int32.toInt z ∧ Int32.toInt z ≤ (1 : Int)) := by
  unfold g_X2_catches
  refine ok_bind (k_X2_secretIn v hI_v i0 a3 (by omega)) (fun r2 hr2 => ?_)
  replace hr2 : (0 : Int) ≤ Int32.toInt r2 ∧ Int32.toInt r2 ≤ (5 : Int) := hr2
  obtain ⟨hr2_lo, hr2_hi⟩ := hr2
  refine ok_bind (k_X2_catchesIf v hI_v i0 r2 a1 a2 ((v 10 i0 4) + a3) (by omega) (by omega) (by omega) (by have : (0 : Int) ≤ (v 10 i0 4).toInt ∧ (v 10 i0 4).toInt ≤ (999 : Int) := hI_v 10 i0 4; have := i_bd (v 10 i0 4); have := i_bd a3; (first | have := sp_addx (v 10 i0 4) a3 (by omega) | obtain ⟨k1, hk1⟩ := sp_add (v 10 i0 4) a3); omega)) (fun r5 hr5 => ?_)
  replace hr5 : (0 : Int) ≤ Int32.toInt r5 ∧ Int32.toInt r5 ≤ (1 : Int) := hr5
  obtain ⟨hr5_lo, hr5_hi⟩ := hr5
  refine ok_some ?_
  show (0 : Int) ≤ Int32.toInt r5 ∧ Int32.toInt r5 ≤ (1 : Int)
  omega
set_option maxHeartbeats 4000000 in
theorem k_X7_bit (v : Mm) (hI_v : PW rgX v) (a0 : Int32) : ok (g_X7_bit v a0) (fun z => (0 : Int) ≤ Int32.toInt z ∧ Int32.toInt z ≤ (1 : Int)) := by
  unfold g_X7_bit
  refine ok_ite _ (fun c1 => ?_) (fun c1 => ?_)
  · skip
    have ic1 := i_eq c1
    have : (0 : Int32).toInt = 0 := (by decide)
    refine ok_some ?_
    show (0 : Int) ≤ Int32.toInt (0 : Int32) ∧ Int32.toInt (0 : Int32) ≤ (1 : Int)
    have : (0 : Int32).toInt = 0 := (by decide)
    omega
  · skip
    have ic1 := i_ne c1
    have : (0 : Int32).toInt = 0 := (by decide)
    refine ok_some ?_
    show (0 : Int) ≤ Int32.toInt (1 : Int32) ∧ Int32.toInt (1 : Int32) ≤ (1 : Int)
    have : (1 : Int32).toInt = 1 := (by decide)
    omega
set_option maxHeartbeats 4000000 in
theorem k_X2_hoursOf (v : Mm) (hI_v : PW rgX v) (i0 : Nat) (a1 : Int32) : ok (g_X2_hoursOf v i0 a1) (fun z => (0 : Int) ≤ Int32.toInt z ∧ Int32.toInt z ≤ (63 : Int)) := by
  have loop4 : ∀ (n4 : Nat) (x2_4 : Int32) (x3_4 : Int32), ((0 : Int) ≤ Int32.toInt x2_4 ∧ Int32.toInt x2_4 ≤ (63 : Int)) → ((0 : Int) ≤ Int32.toInt x3_4 ∧ Int32.toInt x3_4 ≤ (6 : Int)) → (6 - Int32.toInt x3_4 < (n4 : Int)) → ok (g_X2_hoursOf_L4  v i0 a1 n4 x2_4 x3_4) (fun z => (0 : Int) ≤ Int32.toInt z ∧ Int32.toInt z ≤ (63 : Int)) := by
    intro n4
    induction n4 with
    | zero =>
      intro x2_4 x3_4 hv0_4 hv1_4 hm4
      exfalso
      omega
    | succ n4 ih4 =>
      intro x2_4 x3_4 hv0_4 hv1_4 hm4
      show ok (b_X2_hoursOf_L4  (g_X2_hoursOf_L4  v i0 a1 n4) v i0 a1 x2_4 x3_4) _
      unfold b_X2_hoursOf_L4
      refine ok_ite _ (fun c1 => ?_) (fun c1 => ?_)
      · skip
        have ic1 := i_le c1
        have : (6 : Int32).toInt = 6 := (by decide)
        refine ok_some ?_
        show (0 : Int) ≤ Int32.toInt x2_4 ∧ Int32.toInt x2_4 ≤ (63 : Int)
        omega
      · skip
        have ic1 := i_nle c1
        have : (6 : Int32).toInt = 6 := (by decide)
        refine ok_bind (k_X2_guardOn v hI_v i0 (v 10 i0 4) x3_4 (by have : (0 : Int) ≤ (v 10 i0 4).toInt ∧ (v 10 i0 4).toInt ≤ (999 : Int) := hI_v 10 i0 4; omega) (by omega)) (fun r3 hr3 => ?_)
        replace hr3 : (0 : Int) ≤ Int32.toInt r3 ∧ Int32.toInt r3 ≤ (3 : Int) := hr3
        obtain ⟨hr3_lo, hr3_hi⟩ := hr3
        refine ok_ite _ (fun c5 => ?_) (fun c5 => ?_)
        · skip
          have ic5 := i_eq c5
          refine ok_bind (k_X7_bit v hI_v 1 ) (fun r7 hr7 => ?_)
          replace hr7 : (0 : Int) ≤ Int32.toInt r7 ∧ Int32.toInt r7 ≤ (1 : Int) := hr7
          obtain ⟨hr7_lo, hr7_hi⟩ := hr7
          (try have := sp_shl (a := r7) (b := x3_4) (by omega) (by omega) (by omega) (by omega))
          (try have := sp_or64 (a := x2_4) (b := (r7 <<< (x3_4 &&& 31))) (by omega) (by omega) (by omega) (by omega))
          (try have := sp_or16 (a := x2_4) (b := (r7 <<< (x3_4 &&& 31))) (by omega) (by omega) (by omega) (by omega))
          have : (1 : Int32).toInt = 1 := (by decide)
          have := i_bd x3_4
          (first | have := sp_addx x3_4 (1 : Int32) (by omega) | obtain ⟨k1, hk1⟩ := sp_add x3_4 (1 : Int32))
          exact ih4 (x2_4 ||| (r7 <<< (x3_4 &&& 31))) (x3_4 + 1) (by omega) (by omega) (by omega)
        · skip
          have ic5 := i_ne c5
          refine ok_bind (k_X7_bit v hI_v 0 ) (fun r10 hr10 => ?_)
          replace hr10 : (0 : Int) ≤ Int32.toInt r10 ∧ Int32.toInt r10 ≤ (1 : Int) := hr10
          obtain ⟨hr10_lo, hr10_hi⟩ := hr10
          (try have := sp_shl (a := r10) (b := x3_4) (by omega) (by omega) (by omega) (by omega))
          (try have := sp_or64 (a := x2_4) (b := (r10 <<< (x3_4 &&& 31))) (by omega) (by omega) (by omega) (by omega))
          (try have := sp_or16 (a := x2_4) (b := (r10 <<< (x3_4 &&& 31))) (by omega) (by omega) (by omega) (by omega))
          have : (1 : Int32).toInt = 1 := (by decide)
          have := i_bd x3_4
          (first | have := sp_addx x3_4 (1 : Int32) (by omega) | obtain ⟨k2, hk2⟩ := sp_add x3_4 (1 : Int32))
          exact ih4 (x2_4 ||| (r10 <<< (x3_4 &&& 31))) (x3_4 + 1) (by omega) (by omega) (by omega)
  unfold g_X2_hoursOf
  have : (0 : Int32).toInt = 0 := (by decide)
  exact loop4 2000 0 0 (by omega) (by omega) (by omega)
set_option maxHeartbeats 4000000 in
theorem k_X2_wordsIn (v : Mm) (hI_v : PW rgX v) (i0 : Nat) (a1 : Int32) (a2 : Int32) (h_a1 : (0 : Int) ≤ a1.toInt ∧ a1.toInt ≤ (5 : Int)) (h_a2 : (0 : Int) ≤ a2.toInt ∧ a2.toInt ≤ (60 : Int)) : ok (g_X2_wordsIn v i0 a1 a2) (fun z => (0 : Int) ≤ Int32.toInt z ∧ Int32.toInt z ≤ (63 : Int)) := by
  have loop5 : ∀ (n5 : Nat) (x3_5 : Int32) (x4_5 : Int32), ((0 : Int) ≤ Int32.toInt x3_5 ∧ Int32.toInt x3_5 ≤ (63 : Int)) → ((0 : Int) ≤ Int32.toInt x4_5 ∧ Int32.toInt x4_5 ≤ (6 : Int)) → (6 - Int32.toInt x4_5 < (n5 : Int)) → ok (g_X2_wordsIn_L5  v i0 a1 a2 n5 x3_5 x4_5) (fun z => (0 : Int) ≤ Int32.toInt z ∧ Int32.toInt z ≤ (63 : Int)) := by
    intro n5
    induction n5 with
    | zero =>
      intro x3_5 x4_5 hv0_5 hv1_5 hm5
      exfalso
      omega
    | succ n5 ih5 =>
      intro x3_5 x4_5 hv0_5 hv1_5 hm5
      show ok (b_X2_wordsIn_L5  (g_X2_wordsIn_L5  v i0 a1 a2 n5) v i0 a1 a2 x3_5 x4_5) _
      unfold b_X2_wordsIn_L5
      refine ok_ite _ (fun c1 => ?_) (fun c1 => ?_)
      · skip
        have ic1 := i_le c1
        have : (0 : Int) ≤ (v 6 i0 6).toInt ∧ (v 6 i0 6).toInt ≤ (6 : Int) := hI_v 6 i0 6
        refine ok_some ?_
        show (0 : Int) ≤ Int32.toInt x3_5 ∧ Int32.toInt x3_5 ≤ (63 : Int)
        omega
      · skip
        have ic1 := i_nle c1
        have : (0 : Int) ≤ (v 6 i0 6).toInt ∧ (v 6 i0 6).toInt ≤ (6 : Int) := hI_v 6 i0 6
        refine ok_bind (k_X2_catches v hI_v i0 x4_5 a1 a2 (by omega) (by omega) (by omega)) (fun r3 hr3 => ?_)
        replace hr3 : (0 : Int) ≤ Int32.toInt r3 ∧ Int32.toInt r3 ≤ (1 : Int) := hr3
        obtain ⟨hr3_lo, hr3_hi⟩ := hr3
        refine ok_ite _ (fun c5 => ?_) (fun c5 => ?_)
        · skip
          have ic5 := i_eq c5
          have : (0 : Int32).toInt = 0 := (by decide)
          refine ok_bind (k_X7_bit v hI_v 1 ) (fun r7 hr7 => ?_)
          replace hr7 : (0 : Int) ≤ Int32.toInt r7 ∧ Int32.toInt r7 ≤ (1 : Int) := hr7
          obtain ⟨hr7_lo, hr7_hi⟩ := hr7
          (try have := sp_shl (a := r7) (b := x4_5) (by omega) (by omega) (by omega) (by omega))
          (try have := sp_or64 (a := x3_5) (b := (r7 <<< (x4_5 &&& 31))) (by omega) (by omega) (by omega) (by omega))
          (try have := sp_or16 (a := x3_5) (b := (r7 <<< (x4_5 &&& 31))) (by omega) (by omega) (by omega) (by omega))
          have : (1 : Int32).toInt = 1 := (by decide)
          have := i_bd x4_5
          (first | have := sp_addx x4_5 (1 : Int32) (by omega) | obtain ⟨k1, hk1⟩ := sp_add x4_5 (1 : Int32))
          exact ih5 (x3_5 ||| (r7 <<< (x4_5 &&& 31))) (x4_5 + 1) (by omega) (by omega) (by omega)
        · skip
          have ic5 : Int32.toInt r3 = 1 := one_of hr3_lo hr3_hi c5
          have : (0 : Int32).toInt = 0 := (by decide)
          refine ok_bind (k_X7_bit v hI_v 0 ) (fun r10 hr10 => ?_)
          replace hr10 : (0 : Int) ≤ Int32.toInt r10 ∧ Int32.toInt r10 ≤ (1 : Int) := hr10
          obtain ⟨hr10_lo, hr10_hi⟩ := hr10
          (try have := sp_shl (a := r10) (b := x4_5) (by omega) (by omega) (by omega) (by omega))
          (try have := sp_or64 (a := x3_5) (b := (r10 <<< (x4_5 &&& 31))) (by omega) (by omega) (by omega) (by omega))
          (try have := sp_or16 (a := x3_5) (b := (r10 <<< (x4_5 &&& 31))) (by omega) (by omega) (by omega) (by omega))
          have : (1 : Int32).toInt = 1 := (by decide)
          have := i_bd x4_5
          (first | have := sp_addx x4_5 (1 : Int32) (by omega) | obtain ⟨k2, hk2⟩ := sp_add x4_5 (1 : Int32))
          exact ih5 (x3_5 ||| (r10 <<< (x4_5 &&& 31))) (x4_5 + 1) (by omega) (by omega) (by omega)
  unfold g_X2_wordsIn
  have : (0 : Int32).toInt = 0 := (by decide)
  exact loop5 2000 0 0 (by omega) (by omega) (by omega)
set_option maxHeartbeats 4000000 in
theorem k_X2_hoursOpen (v : Mm) (hI_v : PW rgX v) (i0 : Nat) (a1 : Int32) (a2 : Int32) (h_a2 : (0 : Int) ≤ a2.toInt ∧ a2.toInt ≤ (60 : Int)) : ok (g_X2_hoursOpen v i0 a1 a2) (fun z => True) := by
  have loop5 : ∀ (n5 : Nat) (x3_5 : Int32) (x4_5 : Int32), ((0 : Int) ≤ Int32.toInt x4_5 ∧ Int32.toInt x4_5 ≤ (6 : Int)) → (6 - Int32.toInt x4_5 < (n5 : Int)) → ok (g_X2_hoursOpen_L5  v i0 a1 a2 n5 x3_5 x4_5) (fun z => True) := by
    intro n5
    induction n5 with
    | zero =>
      intro x3_5 x4_5 hv0_5 hm5
      exfalso
      omega
    | succ n5 ih5 =>
      intro x3_5 x4_5 hv0_5 hm5
      show ok (b_X2_hoursOpen_L5  (g_X2_hoursOpen_L5  v i0 a1 a2 n5) v i0 a1 a2 x3_5 x4_5) _
      unfold b_X2_hoursOpen_L5
      refine ok_ite _ (fun c1 => ?_) (fun c1 => ?_)
      · skip
        have ic1 := i_le c1
        have : (6 : Int32).toInt = 6 := (by decide)
        refine ok_some ?_
        show True
        trivial
      · skip
        have ic1 := i_nle c1
        have : (6 : Int32).toInt = 6 := (by decide)
        refine ok_bind (k_X2_wordsIn v hI_v i0 x4_5 a2 (by omega) (by omega)) (fun r3 hr3 => ?_)
        replace hr3 : (0 : Int) ≤ Int32.toInt r3 ∧ Int32.toInt r3 ≤ (63 : Int) := hr3
        obtain ⟨hr3_lo, hr3_hi⟩ := hr3
        refine ok_ite _ (fun c5 => ?_) (fun c5 => ?_)
        · skip
          have ic5 := i_eq c5
          have : (-1 : Int32).toInt = -1 := (by decide)
          (try have := sp_xor64 (a := r3) (b := (-1 : Int32)) (by omega) (by omega) (by omega) (by omega))
          (try have := sp_xor16 (a := r3) (b := (-1 : Int32)) (by omega) (by omega) (by omega) (by omega))
          (try have := sp_andl (a := a1) (b := (r3 ^^^ ((-1)))) (by omega) (by omega))
          (try have := sp_and64 (a := a1) (b := (r3 ^^^ ((-1)))) (by omega) (by omega) (by omega) (by omega))
          have : (0 : Int32).toInt = 0 := (by decide)
          refine ok_bind (k_X7_bit v hI_v 1 ) (fun r7 hr7 => ?_)
          replace hr7 : (0 : Int) ≤ Int32.toInt r7 ∧ Int32.toInt r7 ≤ (1 : Int) := hr7
          obtain ⟨hr7_lo, hr7_hi⟩ := hr7
          (try have := sp_shl (a := r7) (b := x4_5) (by omega) (by omega) (by omega) (by omega))
          (try have := sp_or64 (a := x3_5) (b := (r7 <<< (x4_5 &&& 31))) (by omega) (by omega) (by omega) (by omega))
          (try have := sp_or16 (a := x3_5) (b := (r7 <<< (x4_5 &&& 31))) (by omega) (by omega) (by omega) (by omega))
          have : (1 : Int32).toInt = 1 := (by decide)
          have := i_bd x4_5
          (first | have := sp_addx x4_5 (1 : Int32) (by omega) | obtain ⟨k1, hk1⟩ := sp_add x4_5 (1 : Int32))
          exact ih5 (x3_5 ||| (r7 <<< (x4_5 &&& 31))) (x4_5 + 1) (by omega) (by omega)
        · skip
          have ic5 := i_ne c5
          have : (-1 : Int32).toInt = -1 := (by decide)
          (try have := sp_xor64 (a := r3) (b := (-1 : Int32)) (by omega) (by omega) (by omega) (by omega))
          (try have := sp_xor16 (a := r3) (b := (-1 : Int32)) (by omega) (by omega) (by omega) (by omega))
          (try have := sp_andl (a := a1) (b := (r3 ^^^ ((-1)))) (by omega) (by omega))
          (try have := sp_and64 (a := a1) (b := (r3 ^^^ ((-1)))) (by omega) (by omega) (by omega) (by omega))
          have : (0 : Int32).toInt = 0 := (by decide)
          refine ok_bind (k_X7_bit v hI_v 0 ) (fun r10 hr10 => ?_)
          replace hr10 : (0 : Int) ≤ Int32.toInt r10 ∧ Int32.toInt r10 ≤ (1 : Int) := hr10
          obtain ⟨hr10_lo, hr10_hi⟩ := hr10
          (try have := sp_shl (a := r10) (b := x4_5) (by omega) (by omega) (by omega) (by omega))
          (try have := sp_or64 (a := x3_5) (b := (r10 <<< (x4_5 &&& 31))) (by omega) (by omega) (by omega) (by omega))
          (try have := sp_or16 (a := x3_5) (b := (r10 <<< (x4_5 &&& 31))) (by omega) (by omega) (by omega) (by omega))
          have : (1 : Int32).toInt = 1 := (by decide)
          have := i_bd x4_5
          (first | have := sp_addx x4_5 (1 : Int32) (by omega) | obtain ⟨k2, hk2⟩ := sp_add x4_5 (1 : Int32))
          exact ih5 (x3_5 ||| (r10 <<< (x4_5 &&& 31))) (x4_5 + 1) (by omega) (by omega)
  unfold g_X2_hoursOpen
  have : (0 : Int32).toInt = 0 := (by decide)
  exact loop5 2000 0 0 (by omega) (by omega)
set_option maxHeartbeats 4000000 in
theorem k_X2_nightsUntil (v : Mm) (hI_v : PW rgX v) (i0 : Nat) (a1 : Int32) : ok (g_X2_nightsUntil v i0 a1) (fun z => True) := by
  have loop2 : ∀ (n2 : Nat) (x2_2 : Int32), ((0 : Int) ≤ Int32.toInt x2_2 ∧ Int32.toInt x2_2 ≤ (61 : Int)) → (61 - Int32.toInt x2_2 < (n2 : Int)) → ok (g_X2_nightsUntil_L2  v i0 a1 n2 x2_2) (fun z => True) := by
    intro n2
    induction n2 with
    | zero =>
      intro x2_2 hv0_2 hm2
      exfalso
      omega
    | succ n2 ih2 =>
      intro x2_2 hv0_2 hm2
      show ok (b_X2_nightsUntil_L2  (g_X2_nightsUntil_L2  v i0 a1 n2) v i0 a1 x2_2) _
      unfold b_X2_nightsUntil_L2
      refine ok_ite _ (fun c1 => ?_) (fun c1 => ?_)
      · skip
        have ic1 := i_lt c1
        have : (60 : Int32).toInt = 60 := (by decide)
        refine ok_some ?_
        show True
        have : (-1000000 : Int32).toInt = -1000000 := (by decide)
        trivial
      · skip
        have ic1 := i_nlt c1
        have : (60 : Int32).toInt = 60 := (by decide)
        refine ok_bind (k_X2_secretIn v hI_v i0 x2_2 (by omega)) (fun r3 hr3 => ?_)
        replace hr3 : (0 : Int) ≤ Int32.toInt r3 ∧ Int32.toInt r3 ≤ (5 : Int) := hr3
        obtain ⟨hr3_lo, hr3_hi⟩ := hr3
        refine ok_ite _ (fun c5 => ?_) (fun c5 => ?_)
        · skip
          have ic5 := i_eq c5
          refine ok_some ?_
          show True
          trivial
        · skip
          have ic5 := i_ne c5
          have : (1 : Int32).toInt = 1 := (by decide)
          have := i_bd x2_2
          (first | have := sp_addx x2_2 (1 : Int32) (by omega) | obtain ⟨k1, hk1⟩ := sp_add x2_2 (1 : Int32))
          exact ih2 (x2_2 + 1) (by omega) (by omega)
  unfold g_X2_nightsUntil
  have : (0 : Int32).toInt = 0 := (by decide)
  exact loop2 2000 0 (by omega) (by omega)
set_option maxHeartbeats 4000000 in
theorem k_X2_hourIn (v : Mm) (hI_v : PW rgX v) (i0 : Nat) (a1 : Int32) (a2 : Int32) (h_a1 : (0 : Int) ≤ a1.toInt ∧ a1.toInt ≤ (5 : Int)) (h_a2 : (0 : Int) ≤ a2.toInt ∧ a2.toInt ≤ (6 : Int)) : ok (g_X2_hourIn v i0 a1 a2) (fun z => ((Int32.toInt z = -1000000 ∨ (0 ≤ Int32.toInt z ∧ Int32.toInt z ≤ 5)))) := by
  have loop2 : ∀ (n2 : Nat) (x3_2 : Int32), ((0 : Int) ≤ Int32.toInt x3_2 ∧ Int32.toInt x3_2 ≤ (6 : Int)) → (6 - Int32.toInt x3_2 < (n2 : Int)) → ok (g_X2_hourIn_L2  v i0 a1 a2 n2 x3_2) (fun z => ((Int32.toInt z = -1000000 ∨ (0 ≤ Int32.toInt z ∧ Int32.toInt z ≤ 5)))) := by
    intro n2
    induction n2 with
    | zero =>
      intro x3_2 hv0_2 hm2
      exfalso
      omega
    | succ n2 ih2 =>
      intro x3_2 hv0_2 hm2
      show ok (b_X2_hourIn_L2  (g_X2_hourIn_L2  v i0 a1 a2 n2) v i0 a1 a2 x3_2) _
      unfold b_X2_hourIn_L2
      refine ok_ite _ (fun c1 => ?_) (fun c1 => ?_)
      · skip
        have ic1 := i_le c1
        have : (6 : Int32).toInt = 6 := (by decide)
        refine ok_some ?_
        show ((Int32.toInt (-1000000 : Int32) = -1000000 ∨ (0 ≤ Int32.toInt (-1000000 : Int32) ∧ Int32.toInt (-1000000 : Int32) ≤ 5)))
        have : (-1000000 : Int32).toInt = -1000000 := (by decide)
        omega
      · skip
        have ic1 := i_nle c1
        have : (6 : Int32).toInt = 6 := (by decide)
        refine ok_bind (k_X2_catches v hI_v i0 a1 x3_2 0 (by omega) (by omega) (by have : (0 : Int32).toInt = 0 := (by decide); omega)) (fun r3 hr3 => ?_)
        replace hr3 : (0 : Int) ≤ Int32.toInt r3 ∧ Int32.toInt r3 ≤ (1 : Int) := hr3
        obtain ⟨hr3_lo, hr3_hi⟩ := hr3
        refine ok_ite _ (fun c5 => ?_) (fun c5 => ?_)
        · skip
          have ic5 := i_eq c5
          have : (0 : Int32).toInt = 0 := (by decide)
          refine ok_some ?_
          show ((Int32.toInt x3_2 = -1000000 ∨ (0 ≤ Int32.toInt x3_2 ∧ Int32.toInt x3_2 ≤ 5)))
          omega
        · skip
          have ic5 : Int32.toInt r3 = 1 := one_of hr3_lo hr3_hi c5
          have : (0 : Int32).toInt = 0 := (by decide)
          have : (1 : Int32).toInt = 1 := (by decide)
          have := i_bd x3_2
          (first | have := sp_addx x3_2 (1 : Int32) (by omega) | obtain ⟨k1, hk1⟩ := sp_add x3_2 (1 : Int32))
          exact ih2 (x3_2 + 1) (by omega) (by omega)
  unfold g_X2_hourIn
  exact loop2 2000 a2 (by omega) (by omega)
set_option maxHeartbeats 4000000 in
theorem k_X2_guardsAgainst (v : Mm) (hI_v : PW rgX v) (i0 : Nat) (a1 : Int32) (a2 : Int32) (h_a2 : (0 : Int) ≤ a2.toInt ∧ a2.toInt ≤ (60 : Int)) : ok (g_X2_guardsAgainst v i0 a1 a2) (fun z => True) := by
  have loop5 : ∀ (n5 : Nat) (x3_5 : Int32) (x4_5 : Int32), ((0 : Int) ≤ Int32.toInt x4_5 ∧ Int32.toInt x4_5 ≤ (6 : Int)) → (6 - Int32.toInt x4_5 < (n5 : Int)) → ok (g_X2_guardsAgainst_L5  v i0 a1 a2 n5 x3_5 x4_5) (fun z => True) := by
    intro n5
    induction n5 with
    | zero =>
      intro x3_5 x4_5 hv0_5 hm5
      exfalso
      omega
    | succ n5 ih5 =>
      intro x3_5 x4_5 hv0_5 hm5
      show ok (b_X2_guardsAgainst_L5  (g_X2_guardsAgainst_L5  v i0 a1 a2 n5) v i0 a1 a2 x3_5 x4_5) _
      unfold b_X2_guardsAgainst_L5
      refine ok_ite _ (fun c1 => ?_) (fun c1 => ?_)
      · skip
        have ic1 := i_le c1
        have : (6 : Int32).toInt = 6 := (by decide)
        refine ok_some ?_
        show True
        trivial
      · skip
        have ic1 := i_nle c1
        have : (6 : Int32).toInt = 6 := (by decide)
        refine ok_bind (k_X2_wordsIn v hI_v i0 x4_5 a2 (by omega) (by omega)) (fun r3 hr3 => ?_)
        replace hr3 : (0 : Int) ≤ Int32.toInt r3 ∧ Int32.toInt r3 ≤ (63 : Int) := hr3
        obtain ⟨hr3_lo, hr3_hi⟩ := hr3
        refine ok_ite _ (fun c5 => ?_) (fun c5 => ?_)
        · skip
          have ic5 := i_eq c5
          have : (-1 : Int32).toInt = -1 := (by decide)
          (try have := sp_xor64 (a := r3) (b := (-1 : Int32)) (by omega) (by omega) (by omega) (by omega))
          (try have := sp_xor16 (a := r3) (b := (-1 : Int32)) (by omega) (by omega) (by omega) (by omega))
          (try have := sp_andl (a := a1) (b := (r3 ^^^ ((-1)))) (by omega) (by omega))
          (try have := sp_and64 (a := a1) (b := (r3 ^^^ ((-1)))) (by omega) (by omega) (by omega) (by omega))
          have : (0 : Int32).toInt = 0 := (by decide)
          have : (1 : Int32).toInt = 1 := (by decide)
          have := i_bd x4_5
          (first | have := sp_addx x4_5 (1 : Int32) (by omega) | obtain ⟨k1, hk1⟩ := sp_add x4_5 (1 : Int32))
          exact ih5 x3_5 (x4_5 + 1) (by omega) (by omega)
        · skip
          have ic5 := i_ne c5
          have : (-1 : Int32).toInt = -1 := (by decide)
          (try have := sp_xor64 (a := r3) (b := (-1 : Int32)) (by omega) (by omega) (by omega) (by omega))
          (try have := sp_xor16 (a := r3) (b := (-1 : Int32)) (by omega) (by omega) (by omega) (by omega))
          (try have := sp_andl (a := a1) (b := (r3 ^^^ ((-1)))) (by omega) (by omega))
          (try have := sp_and64 (a := a1) (b := (r3 ^^^ ((-1)))) (by omega) (by omega) (by omega) (by omega))
          have : (0 : Int32).toInt = 0 := (by decide)
          refine ok_bind (k_X2_guardOn v hI_v i0 ((v 10 i0 4) + a2) x4_5 (by have : (0 : Int) ≤ (v 10 i0 4).toInt ∧ (v 10 i0 4).toInt ≤ (999 : Int) := hI_v 10 i0 4; have := i_bd (v 10 i0 4); have := i_bd a2; (first | have := sp_addx (v 10 i0 4) a2 (by omega) | obtain ⟨k2, hk2⟩ := sp_add (v 10 i0 4) a2); omega) (by omega)) (fun r7 hr7 => ?_)
          replace hr7 : (0 : Int) ≤ Int32.toInt r7 ∧ Int32.toInt r7 ≤ (3 : Int) := hr7
          obtain ⟨hr7_lo, hr7_hi⟩ := hr7
          refine ok_let (fun x9 ex9 => ?_)
          have : (1 : Int32).toInt = 1 := (by decide)
          (try have := sp_shl4 (b := r7) (by omega) (by omega))
          (try have := sp_shl5 (b := r7) (by omega) (by omega))
          (try have := sp_shl7 (b := r7) (by omega) (by omega))
          (try have := sp_shl (a := (1 : Int32)) (b := r7) (by omega) (by omega) (by omega) (by omega))
          (try have := sp_or64 (a := x3_5) (b := ((1 : Int32) <<< (r7 &&& 31))) (by omega) (by omega) (by omega) (by omega))
          (try have := sp_or16 (a := x3_5) (b := ((1 : Int32) <<< (r7 &&& 31))) (by omega) (by omega) (by omega) (by omega))
          have := i_eq ex9
          have : (1 : Int32).toInt = 1 := (by decide)
          have := i_bd x4_5
          (first | have := sp_addx x4_5 (1 : Int32) (by omega) | obtain ⟨k3, hk3⟩ := sp_add x4_5 (1 : Int32))
          exact ih5 x9 (x4_5 + 1) (by omega) (by omega)
  unfold g_X2_guardsAgainst
  have : (0 : Int32).toInt = 0 := (by decide)
  exact loop5 2000 0 0 (by omega) (by omega)
set_option maxHeartbeats 4000000 in
theorem k_X2_feeOf (v : Mm) (hI_v : PW rgX v) (i0 : Nat) (a1 : Int32) : ok (g_X2_feeOf v i0 a1) (fun z => True) := by
  have loop4 : ∀ (n4 : Nat) (x2_4 : Int32) (x3_4 : Int32), ((0 : Int) ≤ Int32.toInt x3_4 ∧ Int32.toInt x3_4 ≤ (4 : Int)) → (4 - Int32.toInt x3_4 < (n4 : Int)) → ok (g_X2_feeOf_L4  v i0 a1 n4 x2_4 x3_4) (fun z => True) := by
    intro n4
    induction n4 with
    | zero =>
      intro x2_4 x3_4 hv0_4 hm4
      exfalso
      omega
    | succ n4 ih4 =>
      intro x2_4 x3_4 hv0_4 hm4
      show ok (b_X2_feeOf_L4  (g_X2_feeOf_L4  v i0 a1 n4) v i0 a1 x2_4 x3_4) _
      unfold b_X2_feeOf_L4
      refine ok_ite _ (fun c1 => ?_) (fun c1 => ?_)
      · skip
        have ic1 := i_le c1
        have : (0 : Int) ≤ (v 6 i0 7).toInt ∧ (v 6 i0 7).toInt ≤ (4 : Int) := hI_v 6 i0 7
        refine ok_some ?_
        show True
        trivial
      · skip
        have ic1 := i_nle c1
        have : (0 : Int) ≤ (v 6 i0 7).toInt ∧ (v 6 i0 7).toInt ≤ (4 : Int) := hI_v 6 i0 7
        refine ok_grd _ ?_ ?_
        · skip
          exact gr (by omega) (by omega)
        refine ok_let (fun x3 ex3 => ?_)
        have : (1 : Int32).toInt = 1 := (by decide)
        (try have := sp_andl (a := (a1 >>> (x3_4 &&& 31))) (b := (1 : Int32)) (by omega) (by omega))
        (try have := sp_and64 (a := (a1 >>> (x3_4 &&& 31))) (b := (1 : Int32)) (by omega) (by omega) (by omega) (by omega))
        have := i_bd x2_4
        (first | have := sp_addx x2_4 (((a1 >>> (x3_4 &&& 31)) &&& 1) * (v 9 i0 (Int32.toNatClampNeg x3_4))) (by omega) | obtain ⟨k2, hk2⟩ := sp_add x2_4 (((a1 >>> (x3_4 &&& 31)) &&& 1) * (v 9 i0 (Int32.toNatClampNeg x3_4))))
        have := i_eq ex3
        have : (1 : Int32).toInt = 1 := (by decide)
        have := i_bd x3_4
        (first | have := sp_addx x3_4 (1 : Int32) (by omega) | obtain ⟨k3, hk3⟩ := sp_add x3_4 (1 : Int32))
        exact ih4 x3 (x3_4 + 1) (by omega) (by omega)
  unfold g_X2_feeOf
  have : (0 : Int32).toInt = 0 := (by decide)
  exact loop4 2000 0 0 (by omega) (by omega)
set_option maxHeartbeats 4000000 in
theorem k_X2_nearestTo (v : Mm) (hI_v : PW rgX v) (i0 : Nat) (a1 : Int32) (h_a1 : (0 : Int) ≤ a1.toInt ∧ a1.toInt ≤ (5 : Int)) : ok (g_X2_nearestTo v i0 a1) (fun z => ((Int32.toInt z = -1000000 ∨ (0 ≤ Int32.toInt z ∧ Int32.toInt z ≤ 5)))) := by
  have loop8 : ∀ (n8 : Nat) (x2_8 : Int32) (x3_8 : Int32) (x4_8 : Int32), ((0 : Int) ≤ Int32.toInt x4_8 ∧ Int32.toInt x4_8 ≤ (6 : Int)) → ((Int32.toInt x2_8 = -1000000 ∨ (0 ≤ Int32.toInt x2_8 ∧ Int32.toInt x2_8 ≤ 5))) → (6 - Int32.toInt x4_8 < (n8 : Int)) → ok (g_X2_nearestTo_L8  v i0 a1 n8 x2_8 x3_8 x4_8) (fun z => ((Int32.toInt z = -1000000 ∨ (0 ≤ Int32.toInt z ∧ Int32.toInt z ≤ 5)))) := by
    intro n8
    induction n8 with
    | zero =>
      intro x2_8 x3_8 x4_8 hv0_8 hv1_8 hm8
      exfalso
      omega
    | succ n8 ih8 =>
      intro x2_8 x3_8 x4_8 hv0_8 hv1_8 hm8
      show ok (b_X2_nearestTo_L8  (g_X2_nearestTo_L8  v i0 a1 n8) v i0 a1 x2_8 x3_8 x4_8) _
      unfold b_X2_nearestTo_L8
      refine ok_ite _ (fun c1 => ?_) (fun c1 => ?_)
      · skip
        have ic1 := i_le c1
        have : (0 : Int) ≤ (v 6 i0 6).toInt ∧ (v 6 i0 6).toInt ≤ (6 : Int) := hI_v 6 i0 6
        refine ok_some ?_
        show ((Int32.toInt x2_8 = -1000000 ∨ (0 ≤ Int32.toInt x2_8 ∧ Int32.toInt x2_8 ≤ 5)))
        omega
      · skip
        have ic1 := i_nle c1
        have : (0 : Int) ≤ (v 6 i0 6).toInt ∧ (v 6 i0 6).toInt ≤ (6 : Int) := hI_v 6 i0 6
        refine ok_ite _ (fun c2 => ?_) (fun c2 => ?_)
        · skip
          have ic2 := i_eq c2
          have : (1 : Int32).toInt = 1 := (by decide)
          have := i_bd x4_8
          (first | have := sp_addx x4_8 (1 : Int32) (by omega) | obtain ⟨k1, hk1⟩ := sp_add x4_8 (1 : Int32))
          exact ih8 x2_8 x3_8 (x4_8 + 1) (by omega) (by omega) (by omega)
        · skip
          have ic2 := i_ne c2
          refine ok_bind (k_X2_distance v hI_v i0 a1 x4_8 (by omega) (by omega)) (fun r4 hr4 => ?_)
          replace hr4 : (0 : Int) ≤ Int32.toInt r4 ∧ Int32.toInt r4 ≤ (3 : Int) := hr4
          obtain ⟨hr4_lo, hr4_hi⟩ := hr4
          refine ok_ite _ (fun c6 => ?_) (fun c6 => ?_)
          · skip
            have ic6 := i_le c6
            have : (1 : Int32).toInt = 1 := (by decide)
            have := i_bd x4_8
            (first | have := sp_addx x4_8 (1 : Int32) (by omega) | obtain ⟨k2, hk2⟩ := sp_add x4_8 (1 : Int32))
            exact ih8 x2_8 x3_8 (x4_8 + 1) (by omega) (by omega) (by omega)
          · skip
            have ic6 := i_nle c6
            refine ok_bind (k_X2_distance v hI_v i0 a1 x4_8 (by omega) (by omega)) (fun r8 hr8 => ?_)
            replace hr8 : (0 : Int) ≤ Int32.toInt r8 ∧ Int32.toInt r8 ≤ (3 : Int) := hr8
            obtain ⟨hr8_lo, hr8_hi⟩ := hr8
            have : (1 : Int32).toInt = 1 := (by decide)
            have := i_bd x4_8
            (first | have := sp_addx x4_8 (1 : Int32) (by omega) | obtain ⟨k3, hk3⟩ := sp_add x4_8 (1 : Int32))
            exact ih8 x4_8 r8 (x4_8 + 1) (by omega) (by omega) (by omega)
  unfold g_X2_nearestTo
  have : (-1000000 : Int32).toInt = -1000000 := (by decide)
  have : (4 : Int32).toInt = 4 := (by decide)
  have : (0 : Int32).toInt = 0 := (by decide)
  exact loop8 2000 (-1000000) 4 0 (by omega) (by omega) (by omega)
