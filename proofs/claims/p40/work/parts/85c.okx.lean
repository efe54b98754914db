set_option maxHeartbeats 4000000 in
theorem k_X6_append (v : Mm) (hI_v : PW rgX v) (a1 : Int32) (h_a1 : (0 : Int) ≤ a1.toInt ∧ a1.toInt ≤ (255 : Int)) : ok (g_X6_append v a1) (fun z => PW rgX z.2 ∧ (0 : Int) ≤ Int32.toInt (z.1) ∧ Int32.toInt (z.1) ≤ (1 : Int)) := by
  unfold g_X6_append
  refine ok_ite _ (fun c1 => ?_) (fun c1 => ?_)
  · skip
    have ic1 := i_lt c1
    have : (0 : Int) ≤ (v 4 0 2).toInt ∧ (v 4 0 2).toInt ≤ (100 : Int) := hI_v 4 0 2
    have : (100 : Int32).toInt = 100 := (by decide)
    refine ok_grd _ ?_ ?_
    · skip
      have : (0 : Int) ≤ (v 4 0 2).toInt ∧ (v 4 0 2).toInt ≤ (100 : Int) := hI_v 4 0 2
      exact gr (by omega) (by omega)
    refine ok_let (fun v3 ev3 => ?_)
    have : (0 : Int) ≤ (v 4 0 2).toInt ∧ (v 4 0 2).toInt ≤ (100 : Int) := hI_v 4 0 2
    have hI_v3 : PW rgX v3 := by
      rw [ev3]
      refine hI_v.up ?_
      show (0 : Int) ≤ Int32.toInt a1 ∧ Int32.toInt a1 ≤ (255 : Int)
      omega
    have := i_eq (show v3 4 0 2 = v 4 0 2 by rw [ev3]; exact up3_t (by decide))
    refine ok_let (fun v4 ev4 => ?_)
    have hI_v4 : PW rgX v4 := by
      rw [ev4]
      refine hI_v3.up ?_
      show (0 : Int) ≤ Int32.toInt ((v3 4 0 2) + 1) ∧ Int32.toInt ((v3 4 0 2) + 1) ≤ (100 : Int)
      have : (0 : Int) ≤ (v3 4 0 2).toInt ∧ (v3 4 0 2).toInt ≤ (100 : Int) := hI_v3 4 0 2
      have : (1 : Int32).toInt = 1 := (by decide)
      have := i_bd (v3 4 0 2)
      (first | have := sp_addx (v3 4 0 2) (1 : Int32) (by omega) | obtain ⟨k1, hk1⟩ := sp_add (v3 4 0 2) (1 : Int32))
      omega
    have := i_eq (show v4 4 0 2 = ((v3 4 0 2) + 1) by rw [ev4]; exact up3_s)
    have : (0 : Int) ≤ (v3 4 0 2).toInt ∧ (v3 4 0 2).toInt ≤ (100 : Int) := hI_v3 4 0 2
    have : (1 : Int32).toInt = 1 := (by decide)
    have := i_bd (v3 4 0 2)
    (first | have := sp_addx (v3 4 0 2) (1 : Int32) (by omega) | obtain ⟨k2, hk2⟩ := sp_add (v3 4 0 2) (1 : Int32))
    refine ok_some ?_
    show PW rgX v4 ∧ (0 : Int) ≤ Int32.toInt (1 : Int32) ∧ Int32.toInt (1 : Int32) ≤ (1 : Int)
    have : (1 : Int32).toInt = 1 := (by decide)
    refine ⟨hI_v4, ?_⟩
    omega
  · skip
    have ic1 := i_nlt c1
    have : (0 : Int) ≤ (v 4 0 2).toInt ∧ (v 4 0 2).toInt ≤ (100 : Int) := hI_v 4 0 2
    have : (100 : Int32).toInt = 100 := (by decide)
    refine ok_some ?_
    show PW rgX v ∧ (0 : Int) ≤ Int32.toInt (0 : Int32) ∧ Int32.toInt (0 : Int32) ≤ (1 : Int)
    have : (0 : Int32).toInt = 0 := (by decide)
    refine ⟨hI_v, ?_⟩
    omega
set_option maxHeartbeats 4000000 in
theorem k_X6_faulty (v : Mm) (hI_v : PW rgX v) (a1 : Int32) : ok (g_X6_faulty v a1) (fun z => PW rgX z.2 ∧ (0 : Int) ≤ Int32.toInt (z.1) ∧ Int32.toInt (z.1) ≤ (0 : Int) ∧ (Int32.toInt (z.2 6 1 6) = Int32.toInt (v 6 1 6)) ∧ (Int32.toInt (z.2 6 1 7) = Int32.toInt (v 6 1 7))) := by
  unfold g_X6_faulty
  refine ok_let (fun v1 ev1 => ?_)
  have hI_v1 : PW rgX v1 := by rw [ev1]; exact hI_v.up (by have h9 := i_bd a1; exact ⟨h9.1, Int.le_of_lt_add_one h9.2⟩)
  have := i_eq (show v1 4 0 3 = a1 by rw [ev1]; exact up3_s)
  have := i_eq (show v1 4 0 4 = v 4 0 4 by rw [ev1]; exact up3_j (by decide))
  have := i_eq (show v1 4 0 5 = v 4 0 5 by rw [ev1]; exact up3_j (by decide))
  have := i_eq (show v1 6 1 6 = v 6 1 6 by rw [ev1]; exact up3_t (by decide))
  have := i_eq (show v1 6 1 7 = v 6 1 7 by rw [ev1]; exact up3_t (by decide))
  refine ok_let (fun v2 ev2 => ?_)
  have hI_v2 : PW rgX v2 := by rw [ev2]; exact hI_v1.up (by have h9 := i_bd (v1 4 0 5); exact ⟨h9.1, Int.le_of_lt_add_one h9.2⟩)
  have := i_eq (show v2 4 0 3 = v1 4 0 3 by rw [ev2]; exact up3_j (by decide))
  have := i_eq (show v2 4 0 4 = (v1 4 0 5) by rw [ev2]; exact up3_s)
  have : (0 : Int) ≤ (v1 4 0 5).toInt ∧ (v1 4 0 5).toInt ≤ (100 : Int) := hI_v1 4 0 5
  have := i_eq (show v2 4 0 5 = v1 4 0 5 by rw [ev2]; exact up3_j (by decide))
  have := i_eq (show v2 6 1 6 = v1 6 1 6 by rw [ev2]; exact up3_t (by decide))
  have := i_eq (show v2 6 1 7 = v1 6 1 7 by rw [ev2]; exact up3_t (by decide))
  refine ok_some ?_
  show PW rgX v2 ∧ (0 : Int) ≤ Int32.toInt (0 : Int32) ∧ Int32.toInt (0 : Int32) ≤ (0 : Int) ∧ (Int32.toInt (v2 6 1 6) = Int32.toInt (v 6 1 6)) ∧ (Int32.toInt (v2 6 1 7) = Int32.toInt (v 6 1 7))
  have : (0 : Int32).toInt = 0 := (by decide)
  refine ⟨hI_v2, ?_⟩
  omega
set_option maxHeartbeats 4000000 in
theorem k_X6_readSign (v : Mm) (hI_v : PW rgX v) (a1 : Int32) (h_a1 : (0 : Int) ≤ a1.toInt ∧ a1.toInt ≤ (255 : Int)) : ok (g_X6_readSign v a1) (fun z => PW rgX z.2 ∧ (0 : Int) ≤ Int32.toInt (z.1) ∧ Int32.toInt (z.1) ≤ (1 : Int) ∧ (Int32.toInt (z.2 6 1 6) = Int32.toInt (v 6 1 6)) ∧ (Int32.toInt (z.2 6 1 7) = Int32.toInt (v 6 1 7)) ∧ (Int32.toInt (z.1) = 0 ∨ Int32.toInt (hereF v) = Int32.toInt a1)) := by
  unfold g_X6_readSign
  refine ok_bind (k_X6_here v hI_v  ) (fun r2 hr2 => ?_)
  replace hr2 : (-1 : Int) ≤ Int32.toInt r2 ∧ Int32.toInt r2 ≤ (255 : Int) ∧ (Int32.toInt r2 = Int32.toInt (hereF v)) ∧ (Int32.toInt r2 = -1 ∨ Int32.toInt (v 4 0 5) < Int32.toInt (v 4 0 2)) := hr2
  obtain ⟨hr2_lo, hr2_hi, hr2_p0, hr2_p1⟩ := hr2
  have : (0 : Int) ≤ (v 4 0 5).toInt ∧ (v 4 0 5).toInt ≤ (100 : Int) := hI_v 4 0 5
  have : (0 : Int) ≤ (v 4 0 2).toInt ∧ (v 4 0 2).toInt ≤ (100 : Int) := hI_v 4 0 2
  refine ok_ite _ (fun c4 => ?_) (fun c4 => ?_)
  · skip
    have ic4 := i_eq c4
    refine ok_let (fun v5 ev5 => ?_)
    have hI_v5 : PW rgX v5 := by
      rw [ev5]
      refine hI_v.up ?_
      show (0 : Int) ≤ Int32.toInt ((v 4 0 5) + 1) ∧ Int32.toInt ((v 4 0 5) + 1) ≤ (100 : Int)
      have : (0 : Int) ≤ (v 4 0 5).toInt ∧ (v 4 0 5).toInt ≤ (100 : Int) := hI_v 4 0 5
      have : (1 : Int32).toInt = 1 := (by decide)
      have := i_bd (v 4 0 5)
      (first | have := sp_addx (v 4 0 5) (1 : Int32) (by omega) | obtain ⟨k1, hk1⟩ := sp_add (v 4 0 5) (1 : Int32))
      omega
    have := i_eq (show v5 4 0 5 = ((v 4 0 5) + 1) by rw [ev5]; exact up3_s)
    have : (0 : Int) ≤ (v 4 0 5).toInt ∧ (v 4 0 5).toInt ≤ (100 : Int) := hI_v 4 0 5
    have : (1 : Int32).toInt = 1 := (by decide)
    have := i_bd (v 4 0 5)
    (first | have := sp_addx (v 4 0 5) (1 : Int32) (by omega) | obtain ⟨k2, hk2⟩ := sp_add (v 4 0 5) (1 : Int32))
    have := i_eq (show v5 6 1 6 = v 6 1 6 by rw [ev5]; exact up3_t (by decide))
    have := i_eq (show v5 6 1 7 = v 6 1 7 by rw [ev5]; exact up3_t (by decide))
    refine ok_some ?_
    show PW rgX v5 ∧ (0 : Int) ≤ Int32.toInt (1 : Int32) ∧ Int32.toInt (1 : Int32) ≤ (1 : Int) ∧ (Int32.toInt (v5 6 1 6) = Int32.toInt (v 6 1 6)) ∧ (Int32.toInt (v5 6 1 7) = Int32.toInt (v 6 1 7)) ∧ (Int32.toInt (1 : Int32) = 0 ∨ Int32.toInt (hereF v) = Int32.toInt a1)
    have : (1 : Int32).toInt = 1 := (by decide)
    refine ⟨hI_v5, ?_⟩
    omega
  · skip
    have ic4 := i_ne c4
    refine ok_kb2 (k_X6_faulty v hI_v 1 ) (fun r7 v8 hr7 => ?_)
    replace hr7 : PW rgX v8 ∧ (0 : Int) ≤ Int32.toInt r7 ∧ Int32.toInt r7 ≤ (0 : Int) ∧ (Int32.toInt (v8 6 1 6) = Int32.toInt (v 6 1 6)) ∧ (Int32.toInt (v8 6 1 7) = Int32.toInt (v 6 1 7)) := hr7
    obtain ⟨hI_v8, hr7_lo, hr7_hi, hr7_p0, hr7_p1⟩ := hr7
    have : (0 : Int) ≤ (v 6 1 6).toInt ∧ (v 6 1 6).toInt ≤ (6 : Int) := hI_v 6 1 6
    have : (0 : Int) ≤ (v 6 1 7).toInt ∧ (v 6 1 7).toInt ≤ (4 : Int) := hI_v 6 1 7
    have : (1 : Int32).toInt = 1 := (by decide)
    refine ok_some ?_
    show PW rgX v8 ∧ (0 : Int) ≤ Int32.toInt r7 ∧ Int32.toInt r7 ≤ (1 : Int) ∧ (Int32.toInt (v8 6 1 6) = Int32.toInt (v 6 1 6)) ∧ (Int32.toInt (v8 6 1 7) = Int32.toInt (v 6 1 7)) ∧ (Int32.toInt r7 = 0 ∨ Int32.toInt (hereF v) = Int32.toInt a1)
    refine ⟨hI_v8, ?_⟩
    omega
set_option maxHeartbeats 4000000 in
theorem k_X6_isFigure (v : Mm) (hI_v : PW rgX v) (a0 : Int32) : ok (g_X6_isFigure v a0) (fun z => (0 : Int) ≤ Int32.toInt z ∧ Int32.toInt z ≤ (1 : Int) ∧ (Int32.toInt z = 0 ∨ (48 ≤ Int32.toInt a0 ∧ Int32.toInt a0 ≤ 57))) := by
  unfold g_X6_isFigure
  refine ok_ite _ (fun c1 => ?_) (fun c1 => ?_)
  · skip
    have ic1 := i_lt c1
    have : (48 : Int32).toInt = 48 := (by decide)
    refine ok_some ?_
    show (0 : Int) ≤ Int32.toInt (0 : Int32) ∧ Int32.toInt (0 : Int32) ≤ (1 : Int) ∧ (Int32.toInt (0 : Int32) = 0 ∨ (48 ≤ Int32.toInt a0 ∧ Int32.toInt a0 ≤ 57))
    have : (0 : Int32).toInt = 0 := (by decide)
    omega
  · skip
    have ic1 := i_nlt c1
    have : (48 : Int32).toInt = 48 := (by decide)
    refine ok_ite _ (fun c2 => ?_) (fun c2 => ?_)
    · skip
      have ic2 := i_lt c2
      have : (57 : Int32).toInt = 57 := (by decide)
      refine ok_some ?_
      show (0 : Int) ≤ Int32.toInt (0 : Int32) ∧ Int32.toInt (0 : Int32) ≤ (1 : Int) ∧ (Int32.toInt (0 : Int32) = 0 ∨ (48 ≤ Int32.toInt a0 ∧ Int32.toInt a0 ≤ 57))
      have : (0 : Int32).toInt = 0 := (by decide)
      omega
    · skip
      have ic2 := i_nlt c2
      have : (57 : Int32).toInt = 57 := (by decide)
      refine ok_some ?_
      show (0 : Int) ≤ Int32.toInt (1 : Int32) ∧ Int32.toInt (1 : Int32) ≤ (1 : Int) ∧ (Int32.toInt (1 : Int32) = 0 ∨ (48 ≤ Int32.toInt a0 ∧ Int32.toInt a0 ≤ 57))
      have : (1 : Int32).toInt = 1 := (by decide)
      omega
set_option maxHeartbeats 4000000 in
theorem k_X6_readNumber (v : Mm) (hI_v : PW rgX v) (a1 : Int32) (h_a1 : (0 : Int) ≤ a1.toInt ∧ a1.toInt ≤ (9 : Int)) : ok (g_X6_readNumber v a1) (fun z => PW rgX z.2 ∧ (0 : Int) ≤ Int32.toInt (z.1) ∧ Int32.toInt (z.1) ≤ (1 : Int) ∧ (Int32.toInt (z.2 6 1 6) = Int32.toInt (v 6 1 6)) ∧ (Int32.toInt (z.2 6 1 7) = Int32.toInt (v 6 1 7)) ∧ (Int32.toInt (z.1) = 0 ∨ Int32.toInt (z.2 4 0 6) ≤ Int32.toInt a1)) := by
  have loop12 : ∀ (n12 : Nat) (w12 : Mm) (x2_12 : Int32) (x3_12 : Int32), (PW rgX w12) → ((0 : Int) ≤ Int32.toInt x2_12 ∧ Int32.toInt x2_12 ≤ (3 : Int)) → ((0 : Int) ≤ Int32.toInt x3_12 ∧ Int32.toInt x3_12 ≤ (100 : Int)) → (Int32.toInt (w12 6 1 6) = Int32.toInt (v 6 1 6)) → (Int32.toInt (w12 6 1 7) = Int32.toInt (v 6 1 7)) → (Int32.toInt x3_12 = Int32.toInt (w12 4 0 5) + Int32.toInt x2_12) → (Int32.toInt x2_12 = 0 ∨ Int32.toInt x3_12 ≤ Int32.toInt (w12 4 0 2)) → ((Int32.toInt x2_12 = 0 ∧ Int32.toInt (w12 4 0 6) = 0) ∨ (Int32.toInt x2_12 = 1 ∧ Int32.toInt (w12 4 0 6) ≤ 9) ∨ (Int32.toInt x2_12 = 2 ∧ Int32.toInt (w12 4 0 6) ≤ 99) ∨ (Int32.toInt x2_12 = 3 ∧ Int32.toInt (w12 4 0 6) ≤ 999)) → (3 - Int32.toInt x2_12 < (n12 : Int)) → ok (g_X6_readNumber_L12  a1 n12 w12 x2_12 x3_12) (fun z => PW rgX z.2 ∧ (0 : Int) ≤ Int32.toInt (z.1) ∧ Int32.toInt (z.1) ≤ (1 : Int) ∧ (Int32.toInt (z.2 6 1 6) = Int32.toInt (v 6 1 6)) ∧ (Int32.toInt (z.2 6 1 7) = Int32.toInt (v 6 1 7)) ∧ (Int32.toInt (z.1) = 0 ∨ Int32.toInt (z.2 4 0 6) ≤ Int32.toInt a1)) := by
    intro n12
    induction n12 with
    | zero =>
      intro w12 x2_12 x3_12 hI_w12 hv0_12 hv1_12 hv2_12 hv3_12 hv4_12 hv5_12 hv6_12 hm12
      exfalso
      have : (0 : Int) ≤ (w12 6 1 6).toInt ∧ (w12 6 1 6).toInt ≤ (6 : Int) := hI_w12 6 1 6
      have : (0 : Int) ≤ (v 6 1 6).toInt ∧ (v 6 1 6).toInt ≤ (6 : Int) := hI_v 6 1 6
      have : (0 : Int) ≤ (w12 6 1 7).toInt ∧ (w12 6 1 7).toInt ≤ (4 : Int) := hI_w12 6 1 7
      have : (0 : Int) ≤ (v 6 1 7).toInt ∧ (v 6 1 7).toInt ≤ (4 : Int) := hI_v 6 1 7
      have : (0 : Int) ≤ (w12 4 0 5).toInt ∧ (w12 4 0 5).toInt ≤ (100 : Int) := hI_w12 4 0 5
      have : (0 : Int) ≤ (w12 4 0 2).toInt ∧ (w12 4 0 2).toInt ≤ (100 : Int) := hI_w12 4 0 2
      have : (0 : Int) ≤ (w12 4 0 6).toInt ∧ (w12 4 0 6).toInt ≤ (999 : Int) := hI_w12 4 0 6
      omega
    | succ n12 ih12 =>
      intro w12 x2_12 x3_12 hI_w12 hv0_12 hv1_12 hv2_12 hv3_12 hv4_12 hv5_12 hv6_12 hm12
      show ok (b_X6_readNumber_L12  (g_X6_readNumber_L12  a1 n12) a1 w12 x2_12 x3_12) _
      unfold b_X6_readNumber_L12
      have : (0 : Int) ≤ (w12 6 1 6).toInt ∧ (w12 6 1 6).toInt ≤ (6 : Int) := hI_w12 6 1 6
      have : (0 : Int) ≤ (v 6 1 6).toInt ∧ (v 6 1 6).toInt ≤ (6 : Int) := hI_v 6 1 6
      have : (0 : Int) ≤ (w12 6 1 7).toInt ∧ (w12 6 1 7).toInt ≤ (4 : Int) := hI_w12 6 1 7
      have : (0 : Int) ≤ (v 6 1 7).toInt ∧ (v 6 1 7).toInt ≤ (4 : Int) := hI_v 6 1 7
      have : (0 : Int) ≤ (w12 4 0 5).toInt ∧ (w12 4 0 5).toInt ≤ (100 : Int) := hI_w12 4 0 5
      have : (0 : Int) ≤ (w12 4 0 2).toInt ∧ (w12 4 0 2).toInt ≤ (100 : Int) := hI_w12 4 0 2
      have : (0 : Int) ≤ (w12 4 0 6).toInt ∧ (w12 4 0 6).toInt ≤ (999 : Int) := hI_w12 4 0 6
      refine ok_ite _ (fun c1 => ?_) (fun c1 => ?_)
      · skip
        have ic1 := i_le c1
        have : (0 : Int) ≤ (w12 4 0 2).toInt ∧ (w12 4 0 2).toInt ≤ (100 : Int) := hI_w12 4 0 2
        refine ok_ite _ (fun c2 => ?_) (fun c2 => ?_)
        · skip
          have ic2 := i_eq c2
          have : (0 : Int32).toInt = 0 := (by decide)
          refine ok_kb2 (k_X6_faulty w12 hI_w12 1 ) (fun r4 v5 hr4 => ?_)
          replace hr4 : PW rgX v5 ∧ (0 : Int) ≤ Int32.toInt r4 ∧ Int32.toInt r4 ≤ (0 : Int) ∧ (Int32.toInt (v5 6 1 6) = Int32.toInt (w12 6 1 6)) ∧ (Int32.toInt (v5 6 1 7) = Int32.toInt (w12 6 1 7)) := hr4
          obtain ⟨hI_v5, hr4_lo, hr4_hi, hr4_p0, hr4_p1⟩ := hr4
          have : (0 : Int) ≤ (w12 6 1 6).toInt ∧ (w12 6 1 6).toInt ≤ (6 : Int) := hI_w12 6 1 6
          have : (0 : Int) ≤ (w12 6 1 7).toInt ∧ (w12 6 1 7).toInt ≤ (4 : Int) := hI_w12 6 1 7
          have : (1 : Int32).toInt = 1 := (by decide)
          refine ok_some ?_
          show PW rgX v5 ∧ (0 : Int) ≤ Int32.toInt r4 ∧ Int32.toInt r4 ≤ (1 : Int) ∧ (Int32.toInt (v5 6 1 6) = Int32.toInt (v 6 1 6)) ∧ (Int32.toInt (v5 6 1 7) = Int32.toInt (v 6 1 7)) ∧ (Int32.toInt r4 = 0 ∨ Int32.toInt (v5 4 0 6) ≤ Int32.toInt a1)
          refine ⟨hI_v5, ?_⟩
          omega
        · skip
          have ic2 := i_ne c2
          have : (0 : Int32).toInt = 0 := (by decide)
          refine ok_ite _ (fun c6 => ?_) (fun c6 => ?_)
          · skip
            have ic6 := i_le c6
            have : (2 : Int32).toInt = 2 := (by decide)
            refine ok_ite _ (fun c7 => ?_) (fun c7 => ?_)
            · skip
              have ic7 := i_le c7
              have : (0 : Int) ≤ (w12 4 0 6).toInt ∧ (w12 4 0 6).toInt ≤ (999 : Int) := hI_w12 4 0 6
              refine ok_let (fun v8 ev8 => ?_)
              have hI_v8 : PW rgX v8 := by
                rw [ev8]
                refine hI_w12.up ?_
                show (0 : Int) ≤ Int32.toInt ((w12 4 0 5) + x2_12) ∧ Int32.toInt ((w12 4 0 5) + x2_12) ≤ (100 : Int)
                have : (0 : Int) ≤ (w12 4 0 5).toInt ∧ (w12 4 0 5).toInt ≤ (100 : Int) := hI_w12 4 0 5
                have := i_bd (w12 4 0 5)
                have := i_bd x2_12
                (first | have := sp_addx (w12 4 0 5) x2_12 (by omega) | obtain ⟨k1, hk1⟩ := sp_add (w12 4 0 5) x2_12)
                omega
              have := i_eq (show v8 4 0 2 = w12 4 0 2 by rw [ev8]; exact up3_j (by decide))
              have := i_eq (show v8 4 0 5 = ((w12 4 0 5) + x2_12) by rw [ev8]; exact up3_s)
              have : (0 : Int) ≤ (w12 4 0 5).toInt ∧ (w12 4 0 5).toInt ≤ (100 : Int) := hI_w12 4 0 5
              have := i_bd (w12 4 0 5)
              have := i_bd x2_12
              (first | have := sp_addx (w12 4 0 5) x2_12 (by omega) | obtain ⟨k2, hk2⟩ := sp_add (w12 4 0 5) x2_12)
              have := i_eq (show v8 4 0 6 = w12 4 0 6 by rw [ev8]; exact up3_j (by decide))
              have := i_eq (show v8 6 1 6 = w12 6 1 6 by rw [ev8]; exact up3_t (by decide))
              have := i_eq (show v8 6 1 7 = w12 6 1 7 by rw [ev8]; exact up3_t (by decide))
              refine ok_some ?_
              show PW rgX v8 ∧ (0 : Int) ≤ Int32.toInt (1 : Int32) ∧ Int32.toInt (1 : Int32) ≤ (1 : Int) ∧ (Int32.toInt (v8 6 1 6) = Int32.toInt (v 6 1 6)) ∧ (Int32.toInt (v8 6 1 7) = Int32.toInt (v 6 1 7)) ∧ (Int32.toInt (1 : Int32) = 0 ∨ Int32.toInt (v8 4 0 6) ≤ Int32.toInt a1)
              have : (1 : Int32).toInt = 1 := (by decide)
              refine ⟨hI_v8, ?_⟩
              omega
            · skip
              have ic7 := i_nle c7
              have : (0 : Int) ≤ (w12 4 0 6).toInt ∧ (w12 4 0 6).toInt ≤ (999 : Int) := hI_w12 4 0 6
              refine ok_kb2 (k_X6_faulty w12 hI_w12 2 ) (fun r10 v11 hr10 => ?_)
              replace hr10 : PW rgX v11 ∧ (0 : Int) ≤ Int32.toInt r10 ∧ Int32.toInt r10 ≤ (0 : Int) ∧ (Int32.toInt (v11 6 1 6) = Int32.toInt (w12 6 1 6)) ∧ (Int32.toInt (v11 6 1 7) = Int32.toInt (w12 6 1 7)) := hr10
              obtain ⟨hI_v11, hr10_lo, hr10_hi, hr10_p0, hr10_p1⟩ := hr10
              have : (0 : Int) ≤ (w12 6 1 6).toInt ∧ (w12 6 1 6).toInt ≤ (6 : Int) := hI_w12 6 1 6
              have : (0 : Int) ≤ (w12 6 1 7).toInt ∧ (w12 6 1 7).toInt ≤ (4 : Int) := hI_w12 6 1 7
              have : (2 : Int32).toInt = 2 := (by decide)
              refine ok_some ?_
              show PW rgX v11 ∧ (0 : Int) ≤ Int32.toInt r10 ∧ Int32.toInt r10 ≤ (1 : Int) ∧ (Int32.toInt (v11 6 1 6) = Int32.toInt (v 6 1 6)) ∧ (Int32.toInt (v11 6 1 7) = Int32.toInt (v 6 1 7)) ∧ (Int32.toInt r10 = 0 ∨ Int32.toInt (v11 4 0 6) ≤ Int32.toInt a1)
              refine ⟨hI_v11, ?_⟩
              omega
          · skip
            have ic6 := i_nle c6
            have : (2 : Int32).toInt = 2 := (by decide)
            refine ok_kb2 (k_X6_faulty w12 hI_w12 1 ) (fun r13 v14 hr13 => ?_)
            replace hr13 : PW rgX v14 ∧ (0 : Int) ≤ Int32.toInt r13 ∧ Int32.toInt r13 ≤ (0 : Int) ∧ (Int32.toInt (v14 6 1 6) = Int32.toInt (w12 6 1 6)) ∧ (Int32.toInt (v14 6 1 7) = Int32.toInt (w12 6 1 7)) := hr13
            obtain ⟨hI_v14, hr13_lo, hr13_hi, hr13_p0, hr13_p1⟩ := hr13
            have : (0 : Int) ≤ (w12 6 1 6).toInt ∧ (w12 6 1 6).toInt ≤ (6 : Int) := hI_w12 6 1 6
            have : (0 : Int) ≤ (w12 6 1 7).toInt ∧ (w12 6 1 7).toInt ≤ (4 : Int) := hI_w12 6 1 7
            have : (1 : Int32).toInt = 1 := (by decide)
            refine ok_some ?_
            show PW rgX v14 ∧ (0 : Int) ≤ Int32.toInt r13 ∧ Int32.toInt r13 ≤ (1 : Int) ∧ (Int32.toInt (v14 6 1 6) = Int32.toInt (v 6 1 6)) ∧ (Int32.toInt (v14 6 1 7) = Int32.toInt (v 6 1 7)) ∧ (Int32.toInt r13 = 0 ∨ Int32.toInt (v14 4 0 6) ≤ Int32.toInt a1)
            refine ⟨hI_v14, ?_⟩
            omega
      · skip
        have ic1 := i_nle c1
        have : (0 : Int) ≤ (w12 4 0 2).toInt ∧ (w12 4 0 2).toInt ≤ (100 : Int) := hI_w12 4 0 2
        refine ok_ite _ (fun c15 => ?_) (fun c15 => ?_)
        · skip
          have ic15 := i_le c15
          have : (3 : Int32).toInt = 3 := (by decide)
          refine ok_ite _ (fun c16 => ?_) (fun c16 => ?_)
          · skip
            have ic16 := i_eq c16
            have : (0 : Int32).toInt = 0 := (by decide)
            refine ok_kb2 (k_X6_faulty w12 hI_w12 1 ) (fun r18 v19 hr18 => ?_)
            replace hr18 : PW rgX v19 ∧ (0 : Int) ≤ Int32.toInt r18 ∧ Int32.toInt r18 ≤ (0 : Int) ∧ (Int32.toInt (v19 6 1 6) = Int32.toInt (w12 6 1 6)) ∧ (Int32.toInt (v19 6 1 7) = Int32.toInt (w12 6 1 7)) := hr18
            obtain ⟨hI_v19, hr18_lo, hr18_hi, hr18_p0, hr18_p1⟩ := hr18
            have : (0 : Int) ≤ (w12 6 1 6).toInt ∧ (w12 6 1 6).toInt ≤ (6 : Int) := hI_w12 6 1 6
            have : (0 : Int) ≤ (w12 6 1 7).toInt ∧ (w12 6 1 7).toInt ≤ (4 : Int) := hI_w12 6 1 7
            have : (1 : Int32).toInt = 1 := (by decide)
            refine ok_some ?_
            show PW rgX v19 ∧ (0 : Int) ≤ Int32.toInt r18 ∧ Int32.toInt r18 ≤ (1 : Int) ∧ (Int32.toInt (v19 6 1 6) = Int32.toInt (v 6 1 6)) ∧ (Int32.toInt (v19 6 1 7) = Int32.toInt (v 6 1 7)) ∧ (Int32.toInt r18 = 0 ∨ Int32.toInt (v19 4 0 6) ≤ Int32.toInt a1)
            refine ⟨hI_v19, ?_⟩
            omega
          · skip
            have ic16 := i_ne c16
            have : (0 : Int32).toInt = 0 := (by decide)
            refine ok_ite _ (fun c20 => ?_) (fun c20 => ?_)
            · skip
              have ic20 := i_le c20
              have : (2 : Int32).toInt = 2 := (by decide)
              refine ok_ite _ (fun c21 => ?_) (fun c21 => ?_)
              · skip
                have ic21 := i_le c21
                have : (0 : Int) ≤ (w12 4 0 6).toInt ∧ (w12 4 0 6).toInt ≤ (999 : Int) := hI_w12 4 0 6
                refine ok_let (fun v22 ev22 => ?_)
                have hI_v22 : PW rgX v22 := by
                  rw [ev22]
                  refine hI_w12.up ?_
                  show (0 : Int) ≤ Int32.toInt ((w12 4 0 5) + x2_12) ∧ Int32.toInt ((w12 4 0 5) + x2_12) ≤ (100 : Int)
                  have : (0 : Int) ≤ (w12 4 0 5).toInt ∧ (w12 4 0 5).toInt ≤ (100 : Int) := hI_w12 4 0 5
                  have := i_bd (w12 4 0 5)
                  have := i_bd x2_12
                  (first | have := sp_addx (w12 4 0 5) x2_12 (by omega) | obtain ⟨k3, hk3⟩ := sp_add (w12 4 0 5) x2_12)
                  omega
                have := i_eq (show v22 4 0 2 = w12 4 0 2 by rw [ev22]; exact up3_j (by decide))
                have := i_eq (show v22 4 0 5 = ((w12 4 0 5) + x2_12) by rw [ev22]; exact up3_s)
                have : (0 : Int) ≤ (w12 4 0 5).toInt ∧ (w12 4 0 5).toInt ≤ (100 : Int) := hI_w12 4 0 5
                have := i_bd (w12 4 0 5)
                have := i_bd x2_12
                (first | have := sp_addx (w12 4 0 5) x2_12 (by omega) | obtain ⟨k4, hk4⟩ := sp_add (w12 4 0 5) x2_12)
                have := i_eq (show v22 4 0 6 = w12 4 0 6 by rw [ev22]; exact up3_j (by decide))
                have := i_eq (show v22 6 1 6 = w12 6 1 6 by rw [ev22]; exact up3_t (by decide))
                have := i_eq (show v22 6 1 7 = w12 6 1 7 by rw [ev22]; exact up3_t (by decide))
                refine ok_some ?_
                show PW rgX v22 ∧ (0 : Int) ≤ Int32.toInt (1 : Int32) ∧ Int32.toInt (1 : Int32) ≤ (1 : Int) ∧ (Int32.toInt (v22 6 1 6) = Int32.toInt (v 6 1 6)) ∧ (Int32.toInt (v22 6 1 7) = Int32.toInt (v 6 1 7)) ∧ (Int32.toInt (1 : Int32) = 0 ∨ Int32.toInt (v22 4 0 6) ≤ Int32.toInt a1)
                have : (1 : Int32).toInt = 1 := (by decide)
                refine ⟨hI_v22, ?_⟩
                omega
              · skip
                have ic21 := i_nle c21
                have : (0 : Int) ≤ (w12 4 0 6).toInt ∧ (w12 4 0 6).toInt ≤ (999 : Int) := hI_w12 4 0 6
                refine ok_kb2 (k_X6_faulty w12 hI_w12 2 ) (fun r24 v25 hr24 => ?_)
                replace hr24 : PW rgX v25 ∧ (0 : Int) ≤ Int32.toInt r24 ∧ Int32.toInt r24 ≤ (0 : Int) ∧ (Int32.toInt (v25 6 1 6) = Int32.toInt (w12 6 1 6)) ∧ (Int32.toInt (v25 6 1 7) = Int32.toInt (w12 6 1 7)) := hr24
                obtain ⟨hI_v25, hr24_lo, hr24_hi, hr24_p0, hr24_p1⟩ := hr24
                have : (0 : Int) ≤ (w12 6 1 6).toInt ∧ (w12 6 1 6).toInt ≤ (6 : Int) := hI_w12 6 1 6
                have : (0 : Int) ≤ (w12 6 1 7).toInt ∧ (w12 6 1 7).toInt ≤ (4 : Int) := hI_w12 6 1 7
                have : (2 : Int32).toInt = 2 := (by decide)
                refine ok_some ?_
                show PW rgX v25 ∧ (0 : Int) ≤ Int32.toInt r24 ∧ Int32.toInt r24 ≤ (1 : Int) ∧ (Int32.toInt (v25 6 1 6) = Int32.toInt (v 6 1 6)) ∧ (Int32.toInt (v25 6 1 7) = Int32.toInt (v 6 1 7)) ∧ (Int32.toInt r24 = 0 ∨ Int32.toInt (v25 4 0 6) ≤ Int32.toInt a1)
                refine ⟨hI_v25, ?_⟩
                omega
            · skip
              have ic20 := i_nle c20
              have : (2 : Int32).toInt = 2 := (by decide)
              refine ok_kb2 (k_X6_faulty w12 hI_w12 1 ) (fun r27 v28 hr27 => ?_)
              replace hr27 : PW rgX v28 ∧ (0 : Int) ≤ Int32.toInt r27 ∧ Int32.toInt r27 ≤ (0 : Int) ∧ (Int32.toInt (v28 6 1 6) = Int32.toInt (w12 6 1 6)) ∧ (Int32.toInt (v28 6 1 7) = Int32.toInt (w12 6 1 7)) := hr27
              obtain ⟨hI_v28, hr27_lo, hr27_hi, hr27_p0, hr27_p1⟩ := hr27
              have : (0 : Int) ≤ (w12 6 1 6).toInt ∧ (w12 6 1 6).toInt ≤ (6 : Int) := hI_w12 6 1 6
              have : (0 : Int) ≤ (w12 6 1 7).toInt ∧ (w12 6 1 7).toInt ≤ (4 : Int) := hI_w12 6 1 7
              have : (1 : Int32).toInt = 1 := (by decide)
              refine ok_some ?_
              show PW rgX v28 ∧ (0 : Int) ≤ Int32.toInt r27 ∧ Int32.toInt r27 ≤ (1 : Int) ∧ (Int32.toInt (v28 6 1 6) = Int32.toInt (v 6 1 6)) ∧ (Int32.toInt (v28 6 1 7) = Int32.toInt (v 6 1 7)) ∧ (Int32.toInt r27 = 0 ∨ Int32.toInt (v28 4 0 6) ≤ Int32.toInt a1)
              refine ⟨hI_v28, ?_⟩
              omega
        · skip
          have ic15 := i_nle c15
          have : (3 : Int32).toInt = 3 := (by decide)
          refine ok_grd _ ?_ ?_
          · skip
            exact gr (by omega) (by omega)
          refine ok_bind (k_X6_isFigure w12 hI_w12 (w12 5 0 (Int32.toNatClampNeg x3_12)) ) (fun r31 hr31 => ?_)
          replace hr31 : (0 : Int) ≤ Int32.toInt r31 ∧ Int32.toInt r31 ≤ (1 : Int) ∧ (Int32.toInt r31 = 0 ∨ (48 ≤ Int32.toInt (w12 5 0 (Int32.toNatClampNeg x3_12)) ∧ Int32.toInt (w12 5 0 (Int32.toNatClampNeg x3_12)) ≤ 57)) := hr31
          obtain ⟨hr31_lo, hr31_hi, hr31_p0⟩ := hr31
          have : (0 : Int) ≤ (w12 5 0 (Int32.toNatClampNeg x3_12)).toInt ∧ (w12 5 0 (Int32.toNatClampNeg x3_12)).toInt ≤ (255 : Int) := hI_w12 5 0 (Int32.toNatClampNeg x3_12)
          refine ok_ite _ (fun c33 => ?_) (fun c33 => ?_)
          · skip
            have ic33 := i_eq c33
            try clear hr31_p0
            have : (0 : Int32).toInt = 0 := (by decide)
            refine ok_ite _ (fun c34 => ?_) (fun c34 => ?_)
            · skip
              have ic34 := i_eq c34
              have : (0 : Int32).toInt = 0 := (by decide)
              refine ok_kb2 (k_X6_faulty w12 hI_w12 1 ) (fun r36 v37 hr36 => ?_)
              replace hr36 : PW rgX v37 ∧ (0 : Int) ≤ Int32.toInt r36 ∧ Int32.toInt r36 ≤ (0 : Int) ∧ (Int32.toInt (v37 6 1 6) = Int32.toInt (w12 6 1 6)) ∧ (Int32.toInt (v37 6 1 7) = Int32.toInt (w12 6 1 7)) := hr36
              obtain ⟨hI_v37, hr36_lo, hr36_hi, hr36_p0, hr36_p1⟩ := hr36
              have : (0 : Int) ≤ (w12 6 1 6).toInt ∧ (w12 6 1 6).toInt ≤ (6 : Int) := hI_w12 6 1 6
              have : (0 : Int) ≤ (w12 6 1 7).toInt ∧ (w12 6 1 7).toInt ≤ (4 : Int) := hI_w12 6 1 7
              have : (1 : Int32).toInt = 1 := (by decide)
              refine ok_some ?_
              show PW rgX v37 ∧ (0 : Int) ≤ Int32.toInt r36 ∧ Int32.toInt r36 ≤ (1 : Int) ∧ (Int32.toInt (v37 6 1 6) = Int32.toInt (v 6 1 6)) ∧ (Int32.toInt (v37 6 1 7) = Int32.toInt (v 6 1 7)) ∧ (Int32.toInt r36 = 0 ∨ Int32.toInt (v37 4 0 6) ≤ Int32.toInt a1)
              refine ⟨hI_v37, ?_⟩
              omega
            · skip
              have ic34 := i_ne c34
              have : (0 : Int32).toInt = 0 := (by decide)
              refine ok_ite _ (fun c38 => ?_) (fun c38 => ?_)
              · skip
                have ic38 := i_le c38
                have : (2 : Int32).toInt = 2 := (by decide)
                refine ok_ite _ (fun c39 => ?_) (fun c39 => ?_)
                · skip
                  have ic39 := i_le c39
                  have : (0 : Int) ≤ (w12 4 0 6).toInt ∧ (w12 4 0 6).toInt ≤ (999 : Int) := hI_w12 4 0 6
                  refine ok_let (fun v40 ev40 => ?_)
                  have hI_v40 : PW rgX v40 := by
                    rw [ev40]
                    refine hI_w12.up ?_
                    show (0 : Int) ≤ Int32.toInt ((w12 4 0 5) + x2_12) ∧ Int32.toInt ((w12 4 0 5) + x2_12) ≤ (100 : Int)
                    have : (0 : Int) ≤ (w12 4 0 5).toInt ∧ (w12 4 0 5).toInt ≤ (100 : Int) := hI_w12 4 0 5
                    have := i_bd (w12 4 0 5)
                    have := i_bd x2_12
                    (first | have := sp_addx (w12 4 0 5) x2_12 (by omega) | obtain ⟨k5, hk5⟩ := sp_add (w12 4 0 5) x2_12)
                    omega
                  have := i_eq (show v40 4 0 2 = w12 4 0 2 by rw [ev40]; exact up3_j (by decide))
                  have := i_eq (show v40 4 0 5 = ((w12 4 0 5) + x2_12) by rw [ev40]; exact up3_s)
                  have : (0 : Int) ≤ (w12 4 0 5).toInt ∧ (w12 4 0 5).toInt ≤ (100 : Int) := hI_w12 4 0 5
                  have := i_bd (w12 4 0 5)
                  have := i_bd x2_12
                  (first | have := sp_addx (w12 4 0 5) x2_12 (by omega) | obtain ⟨k6, hk6⟩ := sp_add (w12 4 0 5) x2_12)
                  have := i_eq (show v40 4 0 6 = w12 4 0 6 by rw [ev40]; exact up3_j (by decide))
                  have := i_eq (show v40 6 1 6 = w12 6 1 6 by rw [ev40]; exact up3_t (by decide))
                  have := i_eq (show v40 6 1 7 = w12 6 1 7 by rw [ev40]; exact up3_t (by decide))
                  refine ok_some ?_
                  show PW rgX v40 ∧ (0 : Int) ≤ Int32.toInt (1 : Int32) ∧ Int32.toInt (1 : Int32) ≤ (1 : Int) ∧ (Int32.toInt (v40 6 1 6) = Int32.toInt (v 6 1 6)) ∧ (Int32.toInt (v40 6 1 7) = Int32.toInt (v 6 1 7)) ∧ (Int32.toInt (1 : Int32) = 0 ∨ Int32.toInt (v40 4 0 6) ≤ Int32.toInt a1)
                  have : (1 : Int32).toInt = 1 := (by decide)
                  refine ⟨hI_v40, ?_⟩
                  omega
                · skip
                  have ic39 := i_nle c39
                  have : (0 : Int) ≤ (w12 4 0 6).toInt ∧ (w12 4 0 6).toInt ≤ (999 : Int) := hI_w12 4 0 6
                  refine ok_kb2 (k_X6_faulty w12 hI_w12 2 ) (fun r42 v43 hr42 => ?_)
                  replace hr42 : PW rgX v43 ∧ (0 : Int) ≤ Int32.toInt r42 ∧ Int32.toInt r42 ≤ (0 : Int) ∧ (Int32.toInt (v43 6 1 6) = Int32.toInt (w12 6 1 6)) ∧ (Int32.toInt (v43 6 1 7) = Int32.toInt (w12 6 1 7)) := hr42
                  obtain ⟨hI_v43, hr42_lo, hr42_hi, hr42_p0, hr42_p1⟩ := hr42
                  have : (0 : Int) ≤ (w12 6 1 6).toInt ∧ (w12 6 1 6).toInt ≤ (6 : Int) := hI_w12 6 1 6
                  have : (0 : Int) ≤ (w12 6 1 7).toInt ∧ (w12 6 1 7).toInt ≤ (4 : Int) := hI_w12 6 1 7
                  have : (2 : Int32).toInt = 2 := (by decide)
                  refine ok_some ?_
                  show PW rgX v43 ∧ (0 : Int) ≤ Int32.toInt r42 ∧ Int32.toInt r42 ≤ (1 : Int) ∧ (Int32.toInt (v43 6 1 6) = Int32.toInt (v 6 1 6)) ∧ (Int32.toInt (v43 6 1 7) = Int32.toInt (v 6 1 7)) ∧ (Int32.toInt r42 = 0 ∨ Int32.toInt (v43 4 0 6) ≤ Int32.toInt a1)
                  refine ⟨hI_v43, ?_⟩
                  omega
              · skip
                have ic38 := i_nle c38
                have : (2 : Int32).toInt = 2 := (by decide)
                refine ok_kb2 (k_X6_faulty w12 hI_w12 1 ) (fun r45 v46 hr45 => ?_)
                replace hr45 : PW rgX v46 ∧ (0 : Int) ≤ Int32.toInt r45 ∧ Int32.toInt r45 ≤ (0 : Int) ∧ (Int32.toInt (v46 6 1 6) = Int32.toInt (w12 6 1 6)) ∧ (Int32.toInt (v46 6 1 7) = Int32.toInt (w12 6 1 7)) := hr45
                obtain ⟨hI_v46, hr45_lo, hr45_hi, hr45_p0, hr45_p1⟩ := hr45
                have : (0 : Int) ≤ (w12 6 1 6).toInt ∧ (w12 6 1 6).toInt ≤ (6 : Int) := hI_w12 6 1 6
                have : (0 : Int) ≤ (w12 6 1 7).toInt ∧ (w12 6 1 7).toInt ≤ (4 : Int) := hI_w12 6 1 7
                have : (1 : Int32).toInt = 1 := (by decide)
                refine ok_some ?_
                show PW rgX v46 ∧ (0 : Int) ≤ Int32.toInt r45 ∧ Int32.toInt r45 ≤ (1 : Int) ∧ (Int32.toInt (v46 6 1 6) = Int32.toInt (v 6 1 6)) ∧ (Int32.toInt (v46 6 1 7) = Int32.toInt (v 6 1 7)) ∧ (Int32.toInt r45 = 0 ∨ Int32.toInt (v46 4 0 6) ≤ Int32.toInt a1)
                refine ⟨hI_v46, ?_⟩
                omega
          · skip
            have ic33 : Int32.toInt r31 = 1 := one_of hr31_lo hr31_hi c33
            try replace hr31_p0 : (48 ≤ Int32.toInt (w12 5 0 (Int32.toNatClampNeg x3_12)) ∧ Int32.toInt (w12 5 0 (Int32.toNatClampNeg x3_12)) ≤ 57) := orr hr31_p0 ic33
            have : (0 : Int32).toInt = 0 := (by decide)
            refine ok_grd _ ?_ ?_
            · skip
              exact gr (by omega) (by omega)
            refine ok_let (fun v48 ev48 => ?_)
            have hI_v48 : PW rgX v48 := by
              rw [ev48]
              refine hI_w12.up ?_
              show (0 : Int) ≤ Int32.toInt ((((w12 4 0 6) * 10) + (w12 5 0 (Int32.toNatClampNeg x3_12))) - 48) ∧ Int32.toInt ((((w12 4 0 6) * 10) + (w12 5 0 (Int32.toNatClampNeg x3_12))) - 48) ≤ (999 : Int)
              have : (0 : Int) ≤ (w12 4 0 6).toInt ∧ (w12 4 0 6).toInt ≤ (999 : Int) := hI_w12 4 0 6
              have : (10 : Int32).toInt = 10 := (by decide)
              (first | have := sp_mulcx (w12 4 0 6) (10 : Int32) 10 (by decide) (by omega) | obtain ⟨k7, hk7⟩ := sp_mulc (w12 4 0 6) (10 : Int32) 10 (by decide))
              have : (0 : Int) ≤ (w12 5 0 (Int32.toNatClampNeg x3_12)).toInt ∧ (w12 5 0 (Int32.toNatClampNeg x3_12)).toInt ≤ (255 : Int) := hI_w12 5 0 (Int32.toNatClampNeg x3_12)
              have := i_bd (w12 5 0 (Int32.toNatClampNeg x3_12))
              (first | have := sp_addx ((w12 4 0 6) * 10) (w12 5 0 (Int32.toNatClampNeg x3_12)) (by omega) | obtain ⟨k8, hk8⟩ := sp_add ((w12 4 0 6) * 10) (w12 5 0 (Int32.toNatClampNeg x3_12)))
              have : (48 : Int32).toInt = 48 := (by decide)
              (first | have := sp_subx (((w12 4 0 6) * 10) + (w12 5 0 (Int32.toNatClampNeg x3_12))) (48 : Int32) (by omega) | obtain ⟨k9, hk9⟩ := sp_sub (((w12 4 0 6) * 10) + (w12 5 0 (Int32.toNatClampNeg x3_12))) (48 : Int32))
              omega
            have := i_eq (show v48 4 0 2 = w12 4 0 2 by rw [ev48]; exact up3_j (by decide))
            have := i_eq (show v48 4 0 5 = w12 4 0 5 by rw [ev48]; exact up3_j (by decide))
            have := i_eq (show v48 4 0 6 = ((((w12 4 0 6) * 10) + (w12 5 0 (Int32.toNatClampNeg x3_12))) - 48) by rw [ev48]; exact up3_s)
            have : (0 : Int) ≤ (w12 4 0 6).toInt ∧ (w12 4 0 6).toInt ≤ (999 : Int) := hI_w12 4 0 6
            have : (10 : Int32).toInt = 10 := (by decide)
            (first | have := sp_mulcx (w12 4 0 6) (10 : Int32) 10 (by decide) (by omega) | obtain ⟨k10, hk10⟩ := sp_mulc (w12 4 0 6) (10 : Int32) 10 (by decide))
            have : (0 : Int) ≤ (w12 5 0 (Int32.toNatClampNeg x3_12)).toInt ∧ (w12 5 0 (Int32.toNatClampNeg x3_12)).toInt ≤ (255 : Int) := hI_w12 5 0 (Int32.toNatClampNeg x3_12)
            have := i_bd (w12 5 0 (Int32.toNatClampNeg x3_12))
            (first | have := sp_addx ((w12 4 0 6) * 10) (w12 5 0 (Int32.toNatClampNeg x3_12)) (by omega) | obtain ⟨k11, hk11⟩ := sp_add ((w12 4 0 6) * 10) (w12 5 0 (Int32.toNatClampNeg x3_12)))
            have : (48 : Int32).toInt = 48 := (by decide)
            (first | have := sp_subx (((w12 4 0 6) * 10) + (w12 5 0 (Int32.toNatClampNeg x3_12))) (48 : Int32) (by omega) | obtain ⟨k12, hk12⟩ := sp_sub (((w12 4 0 6) * 10) + (w12 5 0 (Int32.toNatClampNeg x3_12))) (48 : Int32))
            have := i_eq (show v48 6 1 6 = w12 6 1 6 by rw [ev48]; exact up3_t (by decide))
            have := i_eq (show v48 6 1 7 = w12 6 1 7 by rw [ev48]; exact up3_t (by decide))
            have : (1 : Int32).toInt = 1 := (by decide)
            have := i_bd x2_12
            (first | have := sp_addx x2_12 (1 : Int32) (by omega) | obtain ⟨k13, hk13⟩ := sp_add x2_12 (1 : Int32))
            have := i_bd x3_12
            (first | have := sp_addx x3_12 (1 : Int32) (by omega) | obtain ⟨k14, hk14⟩ := sp_add x3_12 (1 : Int32))
            exact ih12 v48 (x2_12 + 1) (x3_12 + 1) hI_v48 (by omega) (by omega) (by omega) (by omega) (by omega) (by omega) (by omega) (by omega)
  unfold g_X6_readNumber
  refine ok_let (fun v49 ev49 => ?_)
  have hI_v49 : PW rgX v49 := by
    rw [ev49]
    refine hI_v.up ?_
    show (0 : Int) ≤ Int32.toInt (0 : Int32) ∧ Int32.toInt (0 : Int32) ≤ (999 : Int)
    have : (0 : Int32).toInt = 0 := (by decide)
    omega
  have := i_eq (show v49 4 0 2 = v 4 0 2 by rw [ev49]; exact up3_j (by decide))
  have := i_eq (show v49 4 0 5 = v 4 0 5 by rw [ev49]; exact up3_j (by decide))
  have := i_eq (show v49 4 0 6 = 0 by rw [ev49]; exact up3_s)
  have : (0 : Int32).toInt = 0 := (by decide)
  have := i_eq (show v49 6 1 6 = v 6 1 6 by rw [ev49]; exact up3_t (by decide))
  have := i_eq (show v49 6 1 7 = v 6 1 7 by rw [ev49]; exact up3_t (by decide))
  have : (0 : Int32).toInt = 0 := (by decide)
  have : (0 : Int) ≤ (v49 4 0 5).toInt ∧ (v49 4 0 5).toInt ≤ (100 : Int) := hI_v49 4 0 5
  exact loop12 2000 v49 0 (v49 4 0 5) hI_v49 (by omega) (by omega) (by omega) (by omega) (by omega) (by omega) (by omega) (by omega)
set_option maxHeartbeats 4000000 in
theorem k_X6_readLaw (v : Mm) (hI_v : PW rgX v)  : ok (g_X6_readLaw v ) (fun z => PW rgX z.2 ∧ (0 : Int) ≤ Int32.toInt (z.1) ∧ Int32.toInt (z.1) ≤ (1 : Int)) := by
  unfold g_X6_readLaw
  refine ok_kb2 (k_X6_readSign v hI_v 113 (by have : (113 : Int32).toInt = 113 := (by decide); omega)) (fun r2 v3 hr2 => ?_)
  replace hr2 : PW rgX v3 ∧ (0 : Int) ≤ Int32.toInt r2 ∧ Int32.toInt r2 ≤ (1 : Int) ∧ (Int32.toInt (v3 6 1 6) = Int32.toInt (v 6 1 6)) ∧ (Int32.toInt (v3 6 1 7) = Int32.toInt (v 6 1 7)) ∧ (Int32.toInt r2 = 0 ∨ Int32.toInt (hereF v) = Int32.toInt 113) := hr2
  obtain ⟨hI_v3, hr2_lo, hr2_hi, hr2_p0, hr2_p1, hr2_p2⟩ := hr2
  have : (0 : Int) ≤ (v 6 1 6).toInt ∧ (v 6 1 6).toInt ≤ (6 : Int) := hI_v 6 1 6
  have : (0 : Int) ≤ (v 6 1 7).toInt ∧ (v 6 1 7).toInt ≤ (4 : Int) := hI_v 6 1 7
  have : (113 : Int32).toInt = 113 := (by decide)
  refine ok_ite _ (fun c4 => ?_) (fun c4 => ?_)
  · skip
    have ic4 := i_eq c4
    try clear hr2_p2
    have : (0 : Int32).toInt = 0 := (by decide)
    refine ok_some ?_
    show PW rgX v3 ∧ (0 : Int) ≤ Int32.toInt (0 : Int32) ∧ Int32.toInt (0 : Int32) ≤ (1 : Int)
    have : (0 : Int32).toInt = 0 := (by decide)
    refine ⟨hI_v3, ?_⟩
    omega
  · skip
    have ic4 : Int32.toInt r2 = 1 := one_of hr2_lo hr2_hi c4
    try replace hr2_p2 : Int32.toInt (hereF v) = Int32.toInt 113 := orr hr2_p2 ic4
    have : (0 : Int32).toInt = 0 := (by decide)
    refine ok_kb2 (k_X6_readNumber v3 hI_v3 9 (by have : (9 : Int32).toInt = 9 := (by decide); omega)) (fun r6 v7 hr6 => ?_)
    replace hr6 : PW rgX v7 ∧ (0 : Int) ≤ Int32.toInt r6 ∧ Int32.toInt r6 ≤ (1 : Int) ∧ (Int32.toInt (v7 6 1 6) = Int32.toInt (v3 6 1 6)) ∧ (Int32.toInt (v7 6 1 7) = Int32.toInt (v3 6 1 7)) ∧ (Int32.toInt r6 = 0 ∨ Int32.toInt (v7 4 0 6) ≤ Int32.toInt 9) := hr6
    obtain ⟨hI_v7, hr6_lo, hr6_hi, hr6_p0, hr6_p1, hr6_p2⟩ := hr6
    have : (0 : Int) ≤ (v3 6 1 6).toInt ∧ (v3 6 1 6).toInt ≤ (6 : Int) := hI_v3 6 1 6
    have : (0 : Int) ≤ (v3 6 1 7).toInt ∧ (v3 6 1 7).toInt ≤ (4 : Int) := hI_v3 6 1 7
    have : (9 : Int32).toInt = 9 := (by decide)
    refine ok_ite _ (fun c8 => ?_) (fun c8 => ?_)
    · skip
      have ic8 := i_eq c8
      try clear hr6_p2
      have : (0 : Int32).toInt = 0 := (by decide)
      refine ok_some ?_
      show PW rgX v7 ∧ (0 : Int) ≤ Int32.toInt (0 : Int32) ∧ Int32.toInt (0 : Int32) ≤ (1 : Int)
      have : (0 : Int32).toInt = 0 := (by decide)
      refine ⟨hI_v7, ?_⟩
      omega
    · skip
      have ic8 : Int32.toInt r6 = 1 := one_of hr6_lo hr6_hi c8
      try replace hr6_p2 : Int32.toInt (v7 4 0 6) ≤ Int32.toInt 9 := orr hr6_p2 ic8
      have : (0 : Int32).toInt = 0 := (by decide)
      refine ok_let (fun v9 ev9 => ?_)
      have hI_v9 : PW rgX v9 := by
        rw [ev9]
        refine hI_v7.up ?_
        show (0 : Int) ≤ Int32.toInt (v7 4 0 6) ∧ Int32.toInt (v7 4 0 6) ≤ (9 : Int)
        have : (0 : Int) ≤ (v7 4 0 6).toInt ∧ (v7 4 0 6).toInt ≤ (999 : Int) := hI_v7 4 0 6
        omega
      have := i_eq (show v9 4 0 6 = v7 4 0 6 by rw [ev9]; exact up3_t (by decide))
      have := i_eq (show v9 6 1 4 = v7 6 1 4 by rw [ev9]; exact up3_t (by decide))
      have := i_eq (show v9 6 1 5 = v7 6 1 5 by rw [ev9]; exact up3_t (by decide))
      have := i_eq (show v9 10 1 5 = (v7 4 0 6) by rw [ev9]; exact up3_s)
      have : (0 : Int) ≤ (v7 4 0 6).toInt ∧ (v7 4 0 6).toInt ≤ (999 : Int) := hI_v7 4 0 6
      refine ok_kb2 (k_X6_readSign v9 hI_v9 44 (by have : (44 : Int32).toInt = 44 := (by decide); omega)) (fun r11 v12 hr11 => ?_)
      replace hr11 : PW rgX v12 ∧ (0 : Int) ≤ Int32.toInt r11 ∧ Int32.toInt r11 ≤ (1 : Int) ∧ (Int32.toInt (v12 6 1 6) = Int32.toInt (v9 6 1 6)) ∧ (Int32.toInt (v12 6 1 7) = Int32.toInt (v9 6 1 7)) ∧ (Int32.toInt r11 = 0 ∨ Int32.toInt (hereF v9) = Int32.toInt 44) := hr11
      obtain ⟨hI_v12, hr11_lo, hr11_hi, hr11_p0, hr11_p1, hr11_p2⟩ := hr11
      have : (0 : Int) ≤ (v9 6 1 6).toInt ∧ (v9 6 1 6).toInt ≤ (6 : Int) := hI_v9 6 1 6
      have : (0 : Int) ≤ (v9 6 1 7).toInt ∧ (v9 6 1 7).toInt ≤ (4 : Int) := hI_v9 6 1 7
      have : (44 : Int32).toInt = 44 := (by decide)
      refine ok_ite _ (fun c13 => ?_) (fun c13 => ?_)
      · skip
        have ic13 := i_eq c13
        try clear hr11_p2
        have : (0 : Int32).toInt = 0 := (by decide)
        refine ok_some ?_
        show PW rgX v12 ∧ (0 : Int) ≤ Int32.toInt (0 : Int32) ∧ Int32.toInt (0 : Int32) ≤ (1 : Int)
        have : (0 : Int32).toInt = 0 := (by decide)
        refine ⟨hI_v12, ?_⟩
        omega
      · skip
        have ic13 : Int32.toInt r11 = 1 := one_of hr11_lo hr11_hi c13
        try replace hr11_p2 : Int32.toInt (hereF v9) = Int32.toInt 44 := orr hr11_p2 ic13
        have : (0 : Int32).toInt = 0 := (by decide)
        refine ok_kb2 (k_X6_readNumber v12 hI_v12 9 (by have : (9 : Int32).toInt = 9 := (by decide); omega)) (fun r15 v16 hr15 => ?_)
        replace hr15 : PW rgX v16 ∧ (0 : Int) ≤ Int32.toInt r15 ∧ Int32.toInt r15 ≤ (1 : Int) ∧ (Int32.toInt (v16 6 1 6) = Int32.toInt (v12 6 1 6)) ∧ (Int32.toInt (v16 6 1 7) = Int32.toInt (v12 6 1 7)) ∧ (Int32.toInt r15 = 0 ∨ Int32.toInt (v16 4 0 6) ≤ Int32.toInt 9) := hr15
        obtain ⟨hI_v16, hr15_lo, hr15_hi, hr15_p0, hr15_p1, hr15_p2⟩ := hr15
        have : (0 : Int) ≤ (v12 6 1 6).toInt ∧ (v12 6 1 6).toInt ≤ (6 : Int) := hI_v12 6 1 6
        have : (0 : Int) ≤ (v12 6 1 7).toInt ∧ (v12 6 1 7).toInt ≤ (4 : Int) := hI_v12 6 1 7
        have : (9 : Int32).toInt = 9 := (by decide)
        refine ok_ite _ (fun c17 => ?_) (fun c17 => ?_)
        · skip
          have ic17 := i_eq c17
          try clear hr15_p2
          have : (0 : Int32).toInt = 0 := (by decide)
          refine ok_some ?_
          show PW rgX v16 ∧ (0 : Int) ≤ Int32.toInt (0 : Int32) ∧ Int32.toInt (0 : Int32) ≤ (1 : Int)
          have : (0 : Int32).toInt = 0 := (by decide)
          refine ⟨hI_v16, ?_⟩
          omega
        · skip
          have ic17 : Int32.toInt r15 = 1 := one_of hr15_lo hr15_hi c17
          try replace hr15_p2 : Int32.toInt (v16 4 0 6) ≤ Int32.toInt 9 := orr hr15_p2 ic17
          have : (0 : Int32).toInt = 0 := (by decide)
          refine ok_let (fun v18 ev18 => ?_)
          have hI_v18 : PW rgX v18 := by
            rw [ev18]
            refine hI_v16.up ?_
            show (0 : Int) ≤ Int32.toInt (v16 4 0 6) ∧ Int32.toInt (v16 4 0 6) ≤ (9 : Int)
            have : (0 : Int) ≤ (v16 4 0 6).toInt ∧ (v16 4 0 6).toInt ≤ (999 : Int) := hI_v16 4 0 6
            omega
          have := i_eq (show v18 4 0 6 = v16 4 0 6 by rw [ev18]; exact up3_t (by decide))
          have := i_eq (show v18 6 1 4 = (v16 4 0 6) by rw [ev18]; exact up3_s)
          have : (0 : Int) ≤ (v16 4 0 6).toInt ∧ (v16 4 0 6).toInt ≤ (999 : Int) := hI_v16 4 0 6
          have := i_eq (show v18 6 1 5 = v16 6 1 5 by rw [ev18]; exact up3_j (by decide))
          have := i_eq (show v18 10 1 5 = v16 10 1 5 by rw [ev18]; exact up3_t (by decide))
          refine ok_kb2 (k_X6_readSign v18 hI_v18 44 (by have : (44 : Int32).toInt = 44 := (by decide); omega)) (fun r20 v21 hr20 => ?_)
          replace hr20 : PW rgX v21 ∧ (0 : Int) ≤ Int32.toInt r20 ∧ Int32.toInt r20 ≤ (1 : Int) ∧ (Int32.toInt (v21 6 1 6) = Int32.toInt (v18 6 1 6)) ∧ (Int32.toInt (v21 6 1 7) = Int32.toInt (v18 6 1 7)) ∧ (Int32.toInt r20 = 0 ∨ Int32.toInt (hereF v18) = Int32.toInt 44) := hr20
          obtain ⟨hI_v21, hr20_lo, hr20_hi, hr20_p0, hr20_p1, hr20_p2⟩ := hr20
          have : (0 : Int) ≤ (v18 6 1 6).toInt ∧ (v18 6 1 6).toInt ≤ (6 : Int) := hI_v18 6 1 6
          have : (0 : Int) ≤ (v18 6 1 7).toInt ∧ (v18 6 1 7).toInt ≤ (4 : Int) := hI_v18 6 1 7
          have : (44 : Int32).toInt = 44 := (by decide)
          refine ok_ite _ (fun c22 => ?_) (fun c22 => ?_)
          · skip
            have ic22 := i_eq c22
            try clear hr20_p2
            have : (0 : Int32).toInt = 0 := (by decide)
            refine ok_some ?_
            show PW rgX v21 ∧ (0 : Int) ≤ Int32.toInt (0 : Int32) ∧ Int32.toInt (0 : Int32) ≤ (1 : Int)
            have : (0 : Int32).toInt = 0 := (by decide)
            refine ⟨hI_v21, ?_⟩
            omega
          · skip
            have ic22 : Int32.toInt r20 = 1 := one_of hr20_lo hr20_hi c22
            try replace hr20_p2 : Int32.toInt (hereF v18) = Int32.toInt 44 := orr hr20_p2 ic22
            have : (0 : Int32).toInt = 0 := (by decide)
            refine ok_kb2 (k_X6_readNumber v21 hI_v21 6 (by have : (6 : Int32).toInt = 6 := (by decide); omega)) (fun r24 v25 hr24 => ?_)
            replace hr24 : PW rgX v25 ∧ (0 : Int) ≤ Int32.toInt r24 ∧ Int32.toInt r24 ≤ (1 : Int) ∧ (Int32.toInt (v25 6 1 6) = Int32.toInt (v21 6 1 6)) ∧ (Int32.toInt (v25 6 1 7) = Int32.toInt (v21 6 1 7)) ∧ (Int32.toInt r24 = 0 ∨ Int32.toInt (v25 4 0 6) ≤ Int32.toInt 6) := hr24
            obtain ⟨hI_v25, hr24_lo, hr24_hi, hr24_p0, hr24_p1, hr24_p2⟩ := hr24
            have : (0 : Int) ≤ (v21 6 1 6).toInt ∧ (v21 6 1 6).toInt ≤ (6 : Int) := hI_v21 6 1 6
            have : (0 : Int) ≤ (v21 6 1 7).toInt ∧ (v21 6 1 7).toInt ≤ (4 : Int) := hI_v21 6 1 7
            have : (6 : Int32).toInt = 6 := (by decide)
            refine ok_ite _ (fun c26 => ?_) (fun c26 => ?_)
            · skip
              have ic26 := i_eq c26
              try clear hr24_p2
              have : (0 : Int32).toInt = 0 := (by decide)
              refine ok_some ?_
              show PW rgX v25 ∧ (0 : Int) ≤ Int32.toInt (0 : Int32) ∧ Int32.toInt (0 : Int32) ≤ (1 : Int)
              have : (0 : Int32).toInt = 0 := (by decide)
              refine ⟨hI_v25, ?_⟩
              omega
            · skip
              have ic26 : Int32.toInt r24 = 1 := one_of hr24_lo hr24_hi c26
              try replace hr24_p2 : Int32.toInt (v25 4 0 6) ≤ Int32.toInt 6 := orr hr24_p2 ic26
              have : (0 : Int32).toInt = 0 := (by decide)
              refine ok_let (fun v27 ev27 => ?_)
              have hI_v27 : PW rgX v27 := by
                rw [ev27]
                refine hI_v25.up ?_
                show (0 : Int) ≤ Int32.toInt (v25 4 0 6) ∧ Int32.toInt (v25 4 0 6) ≤ (6 : Int)
                have : (0 : Int) ≤ (v25 4 0 6).toInt ∧ (v25 4 0 6).toInt ≤ (999 : Int) := hI_v25 4 0 6
                omega
              have := i_eq (show v27 4 0 6 = v25 4 0 6 by rw [ev27]; exact up3_t (by decide))
              have := i_eq (show v27 6 1 4 = v25 6 1 4 by rw [ev27]; exact up3_j (by decide))
              have := i_eq (show v27 6 1 5 = (v25 4 0 6) by rw [ev27]; exact up3_s)
              have : (0 : Int) ≤ (v25 4 0 6).toInt ∧ (v25 4 0 6).toInt ≤ (999 : Int) := hI_v25 4 0 6
              have := i_eq (show v27 10 1 5 = v25 10 1 5 by rw [ev27]; exact up3_t (by decide))
              refine ok_kb2 (k_X6_readSign v27 hI_v27 59 (by have : (59 : Int32).toInt = 59 := (by decide); omega)) (fun r29 v30 hr29 => ?_)
              replace hr29 : PW rgX v30 ∧ (0 : Int) ≤ Int32.toInt r29 ∧ Int32.toInt r29 ≤ (1 : Int) ∧ (Int32.toInt (v30 6 1 6) = Int32.toInt (v27 6 1 6)) ∧ (Int32.toInt (v30 6 1 7) = Int32.toInt (v27 6 1 7)) ∧ (Int32.toInt r29 = 0 ∨ Int32.toInt (hereF v27) = Int32.toInt 59) := hr29
              obtain ⟨hI_v30, hr29_lo, hr29_hi, hr29_p0, hr29_p1, hr29_p2⟩ := hr29
              have : (0 : Int) ≤ (v27 6 1 6).toInt ∧ (v27 6 1 6).toInt ≤ (6 : Int) := hI_v27 6 1 6
              have : (0 : Int) ≤ (v27 6 1 7).toInt ∧ (v27 6 1 7).toInt ≤ (4 : Int) := hI_v27 6 1 7
              have : (59 : Int32).toInt = 59 := (by decide)
              refine ok_some ?_
              show PW rgX v30 ∧ (0 : Int) ≤ Int32.toInt r29 ∧ Int32.toInt r29 ≤ (1 : Int)
              refine ⟨hI_v30, ?_⟩
              omega
set_option maxHeartbeats 4000000 in
theorem k_X6_wasTold (v : Mm) (hI_v : PW rgX v) (a1 : Int32) (h_a1 : (0 : Int) ≤ a1.toInt ∧ a1.toInt ≤ (5 : Int)) : ok (g_X6_wasTold v a1) (fun z => (0 : Int) ≤ Int32.toInt z ∧ Int32.toInt z ≤ (1 : Int)) := by
  have loop2 : ∀ (n2 : Nat) (x2_2 : Int32), ((0 : Int) ≤ Int32.toInt x2_2 ∧ Int32.toInt x2_2 ≤ (6 : Int)) → (6 - Int32.toInt x2_2 < (n2 : Int)) → ok (g_X6_wasTold_L2  v a1 n2 x2_2) (fun z => (0 : Int) ≤ Int32.toInt z ∧ Int32.toInt z ≤ (1 : Int)) := by
    intro n2
    induction n2 with
    | zero =>
      intro x2_2 hv0_2 hm2
      exfalso
      omega
    | succ n2 ih2 =>
      intro x2_2 hv0_2 hm2
      show ok (b_X6_wasTold_L2  (g_X6_wasTold_L2  v a1 n2) v a1 x2_2) _
      unfold b_X6_wasTold_L2
      refine ok_ite _ (fun c1 => ?_) (fun c1 => ?_)
      · skip
        have ic1 := i_le c1
        refine ok_some ?_
        show (0 : Int) ≤ Int32.toInt (0 : Int32) ∧ Int32.toInt (0 : Int32) ≤ (1 : Int)
        have : (0 : Int32).toInt = 0 := (by decide)
        omega
      · skip
        have ic1 := i_nle c1
        refine ok_bind (k_X2_distance v hI_v 1 a1 x2_2 (by omega) (by omega)) (fun r3 hr3 => ?_)
        replace hr3 : (0 : Int) ≤ Int32.toInt r3 ∧ Int32.toInt r3 ≤ (3 : Int) := hr3
        obtain ⟨hr3_lo, hr3_hi⟩ := hr3
        refine ok_ite _ (fun c5 => ?_) (fun c5 => ?_)
        · skip
          have ic5 := i_eq c5
          have : (0 : Int32).toInt = 0 := (by decide)
          refine ok_some ?_
          show (0 : Int) ≤ Int32.toInt (1 : Int32) ∧ Int32.toInt (1 : Int32) ≤ (1 : Int)
          have : (1 : Int32).toInt = 1 := (by decide)
          omega
        · skip
          have ic5 := i_ne c5
          have : (0 : Int32).toInt = 0 := (by decide)
          have : (1 : Int32).toInt = 1 := (by decide)
          have := i_bd x2_2
          (first | have := sp_addx x2_2 (1 : Int32) (by omega) | obtain ⟨k1, hk1⟩ := sp_add x2_2 (1 : Int32))
          exact ih2 (x2_2 + 1) (by omega) (by omega)
  unfold g_X6_wasTold
  have : (0 : Int32).toInt = 0 := (by decide)
  exact loop2 2000 0 (by omega) (by omega)
set_option maxHeartbeats 4000000 in
theorem k_X6_readWord (v : Mm) (hI_v : PW rgX v)  : ok (g_X6_readWord v ) (fun z => PW rgX z.2 ∧ (0 : Int) ≤ Int32.toInt (z.1) ∧ Int32.toInt (z.1) ≤ (1 : Int)) := by
  have loop40 : ∀ (n40 : Nat) (w40 : Mm) (x1_40 : Int32), (PW rgX w40) → ((0 : Int) ≤ Int32.toInt x1_40 ∧ Int32.toInt x1_40 ≤ (3 : Int)) → (Int32.toInt (w40 6 1 6) ≤ 5) → (3 - Int32.toInt x1_40 < (n40 : Int)) → ok (g_X6_readWord_L40   n40 w40 x1_40) (fun z => PW rgX z.2 ∧ (0 : Int) ≤ Int32.toInt (z.1) ∧ Int32.toInt (z.1) ≤ (1 : Int)) := by
    intro n40
    induction n40 with
    | zero =>
      intro w40 x1_40 hI_w40 hv0_40 hv1_40 hm40
      exfalso
      have : (0 : Int) ≤ (w40 6 1 6).toInt ∧ (w40 6 1 6).toInt ≤ (6 : Int) := hI_w40 6 1 6
      omega
    | succ n40 ih40 =>
      intro w40 x1_40 hI_w40 hv0_40 hv1_40 hm40
      show ok (b_X6_readWord_L40  (g_X6_readWord_L40   n40)  w40 x1_40) _
      unfold b_X6_readWord_L40
      have : (0 : Int) ≤ (w40 6 1 6).toInt ∧ (w40 6 1 6).toInt ≤ (6 : Int) := hI_w40 6 1 6
      refine ok_ite _ (fun c1 => ?_) (fun c1 => ?_)
      · skip
        have ic1 := i_le c1
        have : (3 : Int32).toInt = 3 := (by decide)
        refine ok_let (fun v2 ev2 => ?_)
        have hI_v2 : PW rgX v2 := by
          rw [ev2]
          refine hI_w40.up ?_
          show (0 : Int) ≤ Int32.toInt ((w40 6 1 6) + 1) ∧ Int32.toInt ((w40 6 1 6) + 1) ≤ (6 : Int)
          have : (0 : Int) ≤ (w40 6 1 6).toInt ∧ (w40 6 1 6).toInt ≤ (6 : Int) := hI_w40 6 1 6
          have : (1 : Int32).toInt = 1 := (by decide)
          have := i_bd (w40 6 1 6)
          (first | have := sp_addx (w40 6 1 6) (1 : Int32) (by omega) | obtain ⟨k1, hk1⟩ := sp_add (w40 6 1 6) (1 : Int32))
          omega
        have := i_eq (show v2 4 0 5 = w40 4 0 5 by rw [ev2]; exact up3_t (by decide))
        have := i_eq (show v2 6 1 6 = ((w40 6 1 6) + 1) by rw [ev2]; exact up3_s)
        have : (0 : Int) ≤ (w40 6 1 6).toInt ∧ (w40 6 1 6).toInt ≤ (6 : Int) := hI_w40 6 1 6
        have : (1 : Int32).toInt = 1 := (by decide)
        have := i_bd (w40 6 1 6)
        (first | have := sp_addx (w40 6 1 6) (1 : Int32) (by omega) | obtain ⟨k2, hk2⟩ := sp_add (w40 6 1 6) (1 : Int32))
        refine ok_kb2 (k_X6_readSign v2 hI_v2 59 (by have : (59 : Int32).toInt = 59 := (by decide); omega)) (fun r4 v5 hr4 => ?_)
        replace hr4 : PW rgX v5 ∧ (0 : Int) ≤ Int32.toInt r4 ∧ Int32.toInt r4 ≤ (1 : Int) ∧ (Int32.toInt (v5 6 1 6) = Int32.toInt (v2 6 1 6)) ∧ (Int32.toInt (v5 6 1 7) = Int32.toInt (v2 6 1 7)) ∧ (Int32.toInt r4 = 0 ∨ Int32.toInt (hereF v2) = Int32.toInt 59) := hr4
        obtain ⟨hI_v5, hr4_lo, hr4_hi, hr4_p0, hr4_p1, hr4_p2⟩ := hr4
        have : (0 : Int) ≤ (v2 6 1 6).toInt ∧ (v2 6 1 6).toInt ≤ (6 : Int) := hI_v2 6 1 6
        have : (0 : Int) ≤ (v2 6 1 7).toInt ∧ (v2 6 1 7).toInt ≤ (4 : Int) := hI_v2 6 1 7
        have : (59 : Int32).toInt = 59 := (by decide)
        refine ok_some ?_
        show PW rgX v5 ∧ (0 : Int) ≤ Int32.toInt r4 ∧ Int32.toInt r4 ≤ (1 : Int)
        refine ⟨hI_v5, ?_⟩
        omega
      · skip
        have ic1 := i_nle c1
        have : (3 : Int32).toInt = 3 := (by decide)
        refine ok_bind (k_X6_here w40 hI_w40  ) (fun r7 hr7 => ?_)
        replace hr7 : (-1 : Int) ≤ Int32.toInt r7 ∧ Int32.toInt r7 ≤ (255 : Int) ∧ (Int32.toInt r7 = Int32.toInt (hereF w40)) ∧ (Int32.toInt r7 = -1 ∨ Int32.toInt (w40 4 0 5) < Int32.toInt (w40 4 0 2)) := hr7
        obtain ⟨hr7_lo, hr7_hi, hr7_p0, hr7_p1⟩ := hr7
        have : (0 : Int) ≤ (w40 4 0 5).toInt ∧ (w40 4 0 5).toInt ≤ (100 : Int) := hI_w40 4 0 5
        have : (0 : Int) ≤ (w40 4 0 2).toInt ∧ (w40 4 0 2).toInt ≤ (100 : Int) := hI_w40 4 0 2
        refine ok_ite _ (fun c9 => ?_) (fun c9 => ?_)
        · skip
          have ic9 := i_lt c9
          have : (97 : Int32).toInt = 97 := (by decide)
          have := i_bd r7
          (first | have := sp_subx r7 (97 : Int32) (by omega) | obtain ⟨k3, hk3⟩ := sp_sub r7 (97 : Int32))
          have : (0 : Int32).toInt = 0 := (by decide)
          refine ok_kb2 (k_X6_faulty w40 hI_w40 1 ) (fun r11 v12 hr11 => ?_)
          replace hr11 : PW rgX v12 ∧ (0 : Int) ≤ Int32.toInt r11 ∧ Int32.toInt r11 ≤ (0 : Int) ∧ (Int32.toInt (v12 6 1 6) = Int32.toInt (w40 6 1 6)) ∧ (Int32.toInt (v12 6 1 7) = Int32.toInt (w40 6 1 7)) := hr11
          obtain ⟨hI_v12, hr11_lo, hr11_hi, hr11_p0, hr11_p1⟩ := hr11
          have : (0 : Int) ≤ (w40 6 1 6).toInt ∧ (w40 6 1 6).toInt ≤ (6 : Int) := hI_w40 6 1 6
          have : (0 : Int) ≤ (w40 6 1 7).toInt ∧ (w40 6 1 7).toInt ≤ (4 : Int) := hI_w40 6 1 7
          have : (1 : Int32).toInt = 1 := (by decide)
          refine ok_some ?_
          show PW rgX v12 ∧ (0 : Int) ≤ Int32.toInt r11 ∧ Int32.toInt r11 ≤ (1 : Int)
          refine ⟨hI_v12, ?_⟩
          omega
        · skip
          have ic9 := i_nlt c9
          have : (97 : Int32).toInt = 97 := (by decide)
          have := i_bd r7
          (first | have := sp_subx r7 (97 : Int32) (by omega) | obtain ⟨k4, hk4⟩ := sp_sub r7 (97 : Int32))
          have : (0 : Int32).toInt = 0 := (by decide)
          refine ok_ite _ (fun c13 => ?_) (fun c13 => ?_)
          · skip
            have ic13 := i_le c13
            have : (97 : Int32).toInt = 97 := (by decide)
            have := i_bd r7
            (first | have := sp_subx r7 (97 : Int32) (by omega) | obtain ⟨k5, hk5⟩ := sp_sub r7 (97 : Int32))
            have : (25 : Int32).toInt = 25 := (by decide)
            refine ok_grd _ ?_ ?_
            · skip
              have : (0 : Int) ≤ (w40 6 1 6).toInt ∧ (w40 6 1 6).toInt ≤ (6 : Int) := hI_w40 6 1 6
              have : (3 : Int32).toInt = 3 := (by decide)
              (first | have := sp_mulcx (w40 6 1 6) (3 : Int32) 3 (by decide) (by omega) | obtain ⟨k6, hk6⟩ := sp_mulc (w40 6 1 6) (3 : Int32) 3 (by decide))
              have := i_bd x1_40
              (first | have := sp_addx ((w40 6 1 6) * 3) x1_40 (by omega) | obtain ⟨k7, hk7⟩ := sp_add ((w40 6 1 6) * 3) x1_40)
              exact gr (by omega) (by omega)
            refine ok_let (fun v15 ev15 => ?_)
            have : (0 : Int) ≤ (w40 6 1 6).toInt ∧ (w40 6 1 6).toInt ≤ (6 : Int) := hI_w40 6 1 6
            have : (3 : Int32).toInt = 3 := (by decide)
            (first | have := sp_mulcx (w40 6 1 6) (3 : Int32) 3 (by decide) (by omega) | obtain ⟨k8, hk8⟩ := sp_mulc (w40 6 1 6) (3 : Int32) 3 (by decide))
            have := i_bd x1_40
            (first | have := sp_addx ((w40 6 1 6) * 3) x1_40 (by omega) | obtain ⟨k9, hk9⟩ := sp_add ((w40 6 1 6) * 3) x1_40)
            have hI_v15 : PW rgX v15 := by rw [ev15]; exact hI_w40.up (by have h9 := i_bd (r7 - 97); exact ⟨h9.1, Int.le_of_lt_add_one h9.2⟩)
            have := i_eq (show v15 4 0 5 = w40 4 0 5 by rw [ev15]; exact up3_t (by decide))
            have := i_eq (show v15 6 1 6 = w40 6 1 6 by rw [ev15]; exact up3_t (by decide))
            refine ok_ite _ (fun c16 => ?_) (fun c16 => ?_)
            · skip
              have ic16 := i_eq c16
              have : (2 : Int32).toInt = 2 := (by decide)
              refine ok_bind (k_X6_wasTold v15 hI_v15 (v15 6 1 6) (by have : (0 : Int) ≤ (v15 6 1 6).toInt ∧ (v15 6 1 6).toInt ≤ (6 : Int) := hI_v15 6 1 6; omega)) (fun r18 hr18 => ?_)
              replace hr18 : (0 : Int) ≤ Int32.toInt r18 ∧ Int32.toInt r18 ≤ (1 : Int) := hr18
              obtain ⟨hr18_lo, hr18_hi⟩ := hr18
              refine ok_ite _ (fun c20 => ?_) (fun c20 => ?_)
              · skip
                have ic20 := i_eq c20
                have : (0 : Int32).toInt = 0 := (by decide)
                refine ok_let (fun v21 ev21 => ?_)
                have hI_v21 : PW rgX v21 := by
                  rw [ev21]
                  refine hI_v15.up ?_
                  show (0 : Int) ≤ Int32.toInt ((v15 4 0 5) + 1) ∧ Int32.toInt ((v15 4 0 5) + 1) ≤ (100 : Int)
                  have : (0 : Int) ≤ (v15 4 0 5).toInt ∧ (v15 4 0 5).toInt ≤ (100 : Int) := hI_v15 4 0 5
                  have : (1 : Int32).toInt = 1 := (by decide)
                  have := i_bd (v15 4 0 5)
                  (first | have := sp_addx (v15 4 0 5) (1 : Int32) (by omega) | obtain ⟨k10, hk10⟩ := sp_add (v15 4 0 5) (1 : Int32))
                  omega
                have := i_eq (show v21 4 0 5 = ((v15 4 0 5) + 1) by rw [ev21]; exact up3_s)
                have : (0 : Int) ≤ (v15 4 0 5).toInt ∧ (v15 4 0 5).toInt ≤ (100 : Int) := hI_v15 4 0 5
                have : (1 : Int32).toInt = 1 := (by decide)
                have := i_bd (v15 4 0 5)
                (first | have := sp_addx (v15 4 0 5) (1 : Int32) (by omega) | obtain ⟨k11, hk11⟩ := sp_add (v15 4 0 5) (1 : Int32))
                have := i_eq (show v21 6 1 6 = v15 6 1 6 by rw [ev21]; exact up3_t (by decide))
                have : (1 : Int32).toInt = 1 := (by decide)
                have := i_bd x1_40
                (first | have := sp_addx x1_40 (1 : Int32) (by omega) | obtain ⟨k12, hk12⟩ := sp_add x1_40 (1 : Int32))
                exact ih40 v21 (x1_40 + 1) hI_v21 (by omega) (by omega) (by omega)
              · skip
                have ic20 : Int32.toInt r18 = 1 := one_of hr18_lo hr18_hi c20
                have : (0 : Int32).toInt = 0 := (by decide)
                refine ok_kb2 (k_X6_faulty v15 hI_v15 2 ) (fun r23 v24 hr23 => ?_)
                replace hr23 : PW rgX v24 ∧ (0 : Int) ≤ Int32.toInt r23 ∧ Int32.toInt r23 ≤ (0 : Int) ∧ (Int32.toInt (v24 6 1 6) = Int32.toInt (v15 6 1 6)) ∧ (Int32.toInt (v24 6 1 7) = Int32.toInt (v15 6 1 7)) := hr23
                obtain ⟨hI_v24, hr23_lo, hr23_hi, hr23_p0, hr23_p1⟩ := hr23
                have : (0 : Int) ≤ (v15 6 1 6).toInt ∧ (v15 6 1 6).toInt ≤ (6 : Int) := hI_v15 6 1 6
                have : (0 : Int) ≤ (v15 6 1 7).toInt ∧ (v15 6 1 7).toInt ≤ (4 : Int) := hI_v15 6 1 7
                have : (2 : Int32).toInt = 2 := (by decide)
                refine ok_some ?_
                show PW rgX v24 ∧ (0 : Int) ≤ Int32.toInt r23 ∧ Int32.toInt r23 ≤ (1 : Int)
                refine ⟨hI_v24, ?_⟩
                omega
            · skip
              have ic16 := i_ne c16
              have : (2 : Int32).toInt = 2 := (by decide)
              refine ok_let (fun v25 ev25 => ?_)
              have hI_v25 : PW rgX v25 := by
                rw [ev25]
                refine hI_v15.up ?_
                show (0 : Int) ≤ Int32.toInt ((v15 4 0 5) + 1) ∧ Int32.toInt ((v15 4 0 5) + 1) ≤ (100 : Int)
                have : (0 : Int) ≤ (v15 4 0 5).toInt ∧ (v15 4 0 5).toInt ≤ (100 : Int) := hI_v15 4 0 5
                have : (1 : Int32).toInt = 1 := (by decide)
                have := i_bd (v15 4 0 5)
                (first | have := sp_addx (v15 4 0 5) (1 : Int32) (by omega) | obtain ⟨k13, hk13⟩ := sp_add (v15 4 0 5) (1 : Int32))
                omega
              have := i_eq (show v25 4 0 5 = ((v15 4 0 5) + 1) by rw [ev25]; exact up3_s)
              have : (0 : Int) ≤ (v15 4 0 5).toInt ∧ (v15 4 0 5).toInt ≤ (100 : Int) := hI_v15 4 0 5
              have : (1 : Int32).toInt = 1 := (by decide)
              have := i_bd (v15 4 0 5)
              (first | have := sp_addx (v15 4 0 5) (1 : Int32) (by omega) | obtain ⟨k14, hk14⟩ := sp_add (v15 4 0 5) (1 : Int32))
              have := i_eq (show v25 6 1 6 = v15 6 1 6 by rw [ev25]; exact up3_t (by decide))
              have : (1 : Int32).toInt = 1 := (by decide)
              have := i_bd x1_40
              (first | have := sp_addx x1_40 (1 : Int32) (by omega) | obtain ⟨k15, hk15⟩ := sp_add x1_40 (1 : Int32))
              exact ih40 v25 (x1_40 + 1) hI_v25 (by omega) (by omega) (by omega)
          · skip
            have ic13 := i_nle c13
            have : (97 : Int32).toInt = 97 := (by decide)
            have := i_bd r7
            (first | have := sp_subx r7 (97 : Int32) (by omega) | obtain ⟨k16, hk16⟩ := sp_sub r7 (97 : Int32))
            have : (25 : Int32).toInt = 25 := (by decide)
            refine ok_kb2 (k_X6_faulty w40 hI_w40 1 ) (fun r27 v28 hr27 => ?_)
            replace hr27 : PW rgX v28 ∧ (0 : Int) ≤ Int32.toInt r27 ∧ Int32.toInt r27 ≤ (0 : Int) ∧ (Int32.toInt (v28 6 1 6) = Int32.toInt (w40 6 1 6)) ∧ (Int32.toInt (v28 6 1 7) = Int32.toInt (w40 6 1 7)) := hr27
            obtain ⟨hI_v28, hr27_lo, hr27_hi, hr27_p0, hr27_p1⟩ := hr27
            have : (0 : Int) ≤ (w40 6 1 6).toInt ∧ (w40 6 1 6).toInt ≤ (6 : Int) := hI_w40 6 1 6
            have : (0 : Int) ≤ (w40 6 1 7).toInt ∧ (w40 6 1 7).toInt ≤ (4 : Int) := hI_w40 6 1 7
            have : (1 : Int32).toInt = 1 := (by decide)
            refine ok_some ?_
            show PW rgX v28 ∧ (0 : Int) ≤ Int32.toInt r27 ∧ Int32.toInt r27 ≤ (1 : Int)
            refine ⟨hI_v28, ?_⟩
            omega
  unfold g_X6_readWord
  refine ok_bind (k_X6_here v hI_v  ) (fun r30 hr30 => ?_)
  replace hr30 : (-1 : Int) ≤ Int32.toInt r30 ∧ Int32.toInt r30 ≤ (255 : Int) ∧ (Int32.toInt r30 = Int32.toInt (hereF v)) ∧ (Int32.toInt r30 = -1 ∨ Int32.toInt (v 4 0 5) < Int32.toInt (v 4 0 2)) := hr30
  obtain ⟨hr30_lo, hr30_hi, hr30_p0, hr30_p1⟩ := hr30
  have : (0 : Int) ≤ (v 4 0 5).toInt ∧ (v 4 0 5).toInt ≤ (100 : Int) := hI_v 4 0 5
  have : (0 : Int) ≤ (v 4 0 2).toInt ∧ (v 4 0 2).toInt ≤ (100 : Int) := hI_v 4 0 2
  refine ok_ite _ (fun c32 => ?_) (fun c32 => ?_)
  · skip
    have ic32 := i_eq c32
    have : (119 : Int32).toInt = 119 := (by decide)
    refine ok_ite _ (fun c33 => ?_) (fun c33 => ?_)
    · skip
      have ic33 := i_lt c33
      have : (0 : Int) ≤ (v 6 1 6).toInt ∧ (v 6 1 6).toInt ≤ (6 : Int) := hI_v 6 1 6
      have : (6 : Int32).toInt = 6 := (by decide)
      refine ok_kb2 (k_X6_readSign v hI_v 119 (by have : (119 : Int32).toInt = 119 := (by decide); omega)) (fun r35 v36 hr35 => ?_)
      replace hr35 : PW rgX v36 ∧ (0 : Int) ≤ Int32.toInt r35 ∧ Int32.toInt r35 ≤ (1 : Int) ∧ (Int32.toInt (v36 6 1 6) = Int32.toInt (v 6 1 6)) ∧ (Int32.toInt (v36 6 1 7) = Int32.toInt (v 6 1 7)) ∧ (Int32.toInt r35 = 0 ∨ Int32.toInt (hereF v) = Int32.toInt 119) := hr35
      obtain ⟨hI_v36, hr35_lo, hr35_hi, hr35_p0, hr35_p1, hr35_p2⟩ := hr35
      have : (0 : Int) ≤ (v 6 1 6).toInt ∧ (v 6 1 6).toInt ≤ (6 : Int) := hI_v 6 1 6
      have : (0 : Int) ≤ (v 6 1 7).toInt ∧ (v 6 1 7).toInt ≤ (4 : Int) := hI_v 6 1 7
      have : (119 : Int32).toInt = 119 := (by decide)
      refine ok_ite _ (fun c37 => ?_) (fun c37 => ?_)
      · skip
        have ic37 := i_eq c37
        try clear hr35_p2
        have : (0 : Int32).toInt = 0 := (by decide)
        refine ok_some ?_
        show PW rgX v36 ∧ (0 : Int) ≤ Int32.toInt (0 : Int32) ∧ Int32.toInt (0 : Int32) ≤ (1 : Int)
        have : (0 : Int32).toInt = 0 := (by decide)
        refine ⟨hI_v36, ?_⟩
        omega
      · skip
        have ic37 : Int32.toInt r35 = 1 := one_of hr35_lo hr35_hi c37
        try replace hr35_p2 : Int32.toInt (hereF v) = Int32.toInt 119 := orr hr35_p2 ic37
        have : (0 : Int32).toInt = 0 := (by decide)
        have : (0 : Int32).toInt = 0 := (by decide)
        exact loop40 2000 v36 0 hI_v36 (by omega) (by omega) (by omega)
    · skip
      have ic33 := i_nlt c33
      have : (0 : Int) ≤ (v 6 1 6).toInt ∧ (v 6 1 6).toInt ≤ (6 : Int) := hI_v 6 1 6
      have : (6 : Int32).toInt = 6 := (by decide)
      refine ok_kb2 (k_X6_faulty v hI_v 3 ) (fun r39 v40 hr39 => ?_)
      replace hr39 : PW rgX v40 ∧ (0 : Int) ≤ Int32.toInt r39 ∧ Int32.toInt r39 ≤ (0 : Int) ∧ (Int32.toInt (v40 6 1 6) = Int32.toInt (v 6 1 6)) ∧ (Int32.toInt (v40 6 1 7) = Int32.toInt (v 6 1 7)) := hr39
      obtain ⟨hI_v40, hr39_lo, hr39_hi, hr39_p0, hr39_p1⟩ := hr39
      have : (0 : Int) ≤ (v 6 1 6).toInt ∧ (v 6 1 6).toInt ≤ (6 : Int) := hI_v 6 1 6
      have : (0 : Int) ≤ (v 6 1 7).toInt ∧ (v 6 1 7).toInt ≤ (4 : Int) := hI_v 6 1 7
      have : (3 : Int32).toInt = 3 := (by decide)
      refine ok_some ?_
      show PW rgX v40 ∧ (0 : Int) ≤ Int32.toInt r39 ∧ Int32.toInt r39 ≤ (1 : Int)
      refine ⟨hI_v40, ?_⟩
      omega
  · skip
    have ic32 := i_ne c32
    have : (119 : Int32).toInt = 119 := (by decide)
    refine ok_kb2 (k_X6_readSign v hI_v 119 (by have : (119 : Int32).toInt = 119 := (by decide); omega)) (fun r42 v43 hr42 => ?_)
    replace hr42 : PW rgX v43 ∧ (0 : Int) ≤ Int32.toInt r42 ∧ Int32.toInt r42 ≤ (1 : Int) ∧ (Int32.toInt (v43 6 1 6) = Int32.toInt (v 6 1 6)) ∧ (Int32.toInt (v43 6 1 7) = Int32.toInt (v 6 1 7)) ∧ (Int32.toInt r42 = 0 ∨ Int32.toInt (hereF v) = Int32.toInt 119) := hr42
    obtain ⟨hI_v43, hr42_lo, hr42_hi, hr42_p0, hr42_p1, hr42_p2⟩ := hr42
    have : (0 : Int) ≤ (v 6 1 6).toInt ∧ (v 6 1 6).toInt ≤ (6 : Int) := hI_v 6 1 6
    have : (0 : Int) ≤ (v 6 1 7).toInt ∧ (v 6 1 7).toInt ≤ (4 : Int) := hI_v 6 1 7
    have : (119 : Int32).toInt = 119 := (by decide)
    refine ok_ite _ (fun c44 => ?_) (fun c44 => ?_)
    · skip
      have ic44 := i_eq c44
      try clear hr42_p2
      have : (0 : Int32).toInt = 0 := (by decide)
      refine ok_some ?_
      show PW rgX v43 ∧ (0 : Int) ≤ Int32.toInt (0 : Int32) ∧ Int32.toInt (0 : Int32) ≤ (1 : Int)
      have : (0 : Int32).toInt = 0 := (by decide)
      refine ⟨hI_v43, ?_⟩
      omega
    · skip
      have ic44 : Int32.toInt r42 = 1 := one_of hr42_lo hr42_hi c44
      try replace hr42_p2 : Int32.toInt (hereF v) = Int32.toInt 119 := orr hr42_p2 ic44
      have : (0 : Int32).toInt = 0 := (by decide)
      have : (0 : Int32).toInt = 0 := (by decide)
      exact loop40 2000 v43 0 hI_v43 (by omega) (by omega) (by omega)
set_option maxHeartbeats 4000000 in
theorem k_X6_kindOf (v : Mm) (hI_v : PW rgX v) (a0 : Int32) : ok (g_X6_kindOf v a0) (fun z => (Int32.toInt z = -1000000 ∨ 100 ≤ Int32.toInt a0)) := by
  unfold g_X6_kindOf
  refine ok_ite _ (fun c1 => ?_) (fun c1 => ?_)
  · skip
    have ic1 := i_eq c1
    have : (100 : Int32).toInt = 100 := (by decide)
    refine ok_some ?_
    show (Int32.toInt (4 : Int32) = -1000000 ∨ 100 ≤ Int32.toInt a0)
    have : (4 : Int32).toInt = 4 := (by decide)
    omega
  · skip
    have ic1 := i_ne c1
    have : (100 : Int32).toInt = 100 := (by decide)
    refine ok_ite _ (fun c2 => ?_) (fun c2 => ?_)
    · skip
      have ic2 := i_eq c2
      have : (101 : Int32).toInt = 101 := (by decide)
      refine ok_some ?_
      show (Int32.toInt (3 : Int32) = -1000000 ∨ 100 ≤ Int32.toInt a0)
      have : (3 : Int32).toInt = 3 := (by decide)
      omega
    · skip
      have ic2 := i_ne c2
      have : (101 : Int32).toInt = 101 := (by decide)
      refine ok_ite _ (fun c3 => ?_) (fun c3 => ?_)
      · skip
        have ic3 := i_eq c3
        have : (103 : Int32).toInt = 103 := (by decide)
        refine ok_some ?_
        show (Int32.toInt (5 : Int32) = -1000000 ∨ 100 ≤ Int32.toInt a0)
        have : (5 : Int32).toInt = 5 := (by decide)
        omega
      · skip
        have ic3 := i_ne c3
        have : (103 : Int32).toInt = 103 := (by decide)
        refine ok_ite _ (fun c4 => ?_) (fun c4 => ?_)
        · skip
          have ic4 := i_eq c4
          have : (107 : Int32).toInt = 107 := (by decide)
          refine ok_some ?_
          show (Int32.toInt (1 : Int32) = -1000000 ∨ 100 ≤ Int32.toInt a0)
          have : (1 : Int32).toInt = 1 := (by decide)
          omega
        · skip
          have ic4 := i_ne c4
          have : (107 : Int32).toInt = 107 := (by decide)
          refine ok_ite _ (fun c5 => ?_) (fun c5 => ?_)
          · skip
            have ic5 := i_eq c5
            have : (115 : Int32).toInt = 115 := (by decide)
            refine ok_some ?_
            show (Int32.toInt (2 : Int32) = -1000000 ∨ 100 ≤ Int32.toInt a0)
            have : (2 : Int32).toInt = 2 := (by decide)
            omega
          · skip
            have ic5 := i_ne c5
            have : (115 : Int32).toInt = 115 := (by decide)
            refine ok_some ?_
            show (Int32.toInt (-1000000 : Int32) = -1000000 ∨ 100 ≤ Int32.toInt a0)
            have : (-1000000 : Int32).toInt = -1000000 := (by decide)
            omega
set_option maxHeartbeats 4000000 in
theorem k_X6_readGuard (v : Mm) (hI_v : PW rgX v)  : ok (g_X6_readGuard v ) (fun z => PW rgX z.2 ∧ (0 : Int) ≤ Int32.toInt (z.1) ∧ Int32.toInt (z.1) ≤ (1 : Int)) := by
  unfold g_X6_readGuard
  refine ok_bind (k_X6_here v hI_v  ) (fun r2 hr2 => ?_)
  replace hr2 : (-1 : Int) ≤ Int32.toInt r2 ∧ Int32.toInt r2 ≤ (255 : Int) ∧ (Int32.toInt r2 = Int32.toInt (hereF v)) ∧ (Int32.toInt r2 = -1 ∨ Int32.toInt (v 4 0 5) < Int32.toInt (v 4 0 2)) := hr2
  obtain ⟨hr2_lo, hr2_hi, hr2_p0, hr2_p1⟩ := hr2
  have : (0 : Int) ≤ (v 4 0 5).toInt ∧ (v 4 0 5).toInt ≤ (100 : Int) := hI_v 4 0 5
  have : (0 : Int) ≤ (v 4 0 2).toInt ∧ (v 4 0 2).toInt ≤ (100 : Int) := hI_v 4 0 2
  refine ok_bind (k_X6_kindOf v hI_v r2 ) (fun r5 hr5 => ?_)
  replace hr5 : (Int32.toInt r5 = -1000000 ∨ 100 ≤ Int32.toInt r2) := hr5
  have hr5_p0 := hr5
  clear hr5
  refine ok_ite _ (fun c7 => ?_) (fun c7 => ?_)
  · skip
    have ic7 := i_eq c7
    have : (-1000000 : Int32).toInt = -1000000 := (by decide)
    refine ok_kb2 (k_X6_faulty v hI_v 1 ) (fun r9 v10 hr9 => ?_)
    replace hr9 : PW rgX v10 ∧ (0 : Int) ≤ Int32.toInt r9 ∧ Int32.toInt r9 ≤ (0 : Int) ∧ (Int32.toInt (v10 6 1 6) = Int32.toInt (v 6 1 6)) ∧ (Int32.toInt (v10 6 1 7) = Int32.toInt (v 6 1 7)) := hr9
    obtain ⟨hI_v10, hr9_lo, hr9_hi, hr9_p0, hr9_p1⟩ := hr9
    have : (0 : Int) ≤ (v 6 1 6).toInt ∧ (v 6 1 6).toInt ≤ (6 : Int) := hI_v 6 1 6
    have : (0 : Int) ≤ (v 6 1 7).toInt ∧ (v 6 1 7).toInt ≤ (4 : Int) := hI_v 6 1 7
    have : (1 : Int32).toInt = 1 := (by decide)
    refine ok_some ?_
    show PW rgX v10 ∧ (0 : Int) ≤ Int32.toInt r9 ∧ Int32.toInt r9 ≤ (1 : Int)
    refine ⟨hI_v10, ?_⟩
    omega
  · skip
    have ic7 := i_ne c7
    have : (-1000000 : Int32).toInt = -1000000 := (by decide)
    refine ok_ite _ (fun c11 => ?_) (fun c11 => ?_)
    · skip
      have ic11 := i_lt c11
      have : (0 : Int) ≤ (v 6 1 7).toInt ∧ (v 6 1 7).toInt ≤ (4 : Int) := hI_v 6 1 7
      have : (4 : Int32).toInt = 4 := (by decide)
      refine ok_let (fun v12 ev12 => ?_)
      have hI_v12 : PW rgX v12 := by
        rw [ev12]
        refine hI_v.up ?_
        show (0 : Int) ≤ Int32.toInt ((v 4 0 5) + 1) ∧ Int32.toInt ((v 4 0 5) + 1) ≤ (100 : Int)
        have : (0 : Int) ≤ (v 4 0 5).toInt ∧ (v 4 0 5).toInt ≤ (100 : Int) := hI_v 4 0 5
        have : (1 : Int32).toInt = 1 := (by decide)
        have := i_bd (v 4 0 5)
        (first | have := sp_addx (v 4 0 5) (1 : Int32) (by omega) | obtain ⟨k1, hk1⟩ := sp_add (v 4 0 5) (1 : Int32))
        omega
      have := i_eq (show v12 4 0 5 = ((v 4 0 5) + 1) by rw [ev12]; exact up3_s)
      have : (0 : Int) ≤ (v 4 0 5).toInt ∧ (v 4 0 5).toInt ≤ (100 : Int) := hI_v 4 0 5
      have : (1 : Int32).toInt = 1 := (by decide)
      have := i_bd (v 4 0 5)
      (first | have := sp_addx (v 4 0 5) (1 : Int32) (by omega) | obtain ⟨k2, hk2⟩ := sp_add (v 4 0 5) (1 : Int32))
      have := i_eq (show v12 4 0 6 = v 4 0 6 by rw [ev12]; exact up3_j (by decide))
      have := i_eq (show v12 6 1 7 = v 6 1 7 by rw [ev12]; exact up3_t (by decide))
      refine ok_kb2 (k_X6_readNumber v12 hI_v12 9 (by have : (9 : Int32).toInt = 9 := (by decide); omega)) (fun r14 v15 hr14 => ?_)
      replace hr14 : PW rgX v15 ∧ (0 : Int) ≤ Int32.toInt r14 ∧ Int32.toInt r14 ≤ (1 : Int) ∧ (Int32.toInt (v15 6 1 6) = Int32.toInt (v12 6 1 6)) ∧ (Int32.toInt (v15 6 1 7) = Int32.toInt (v12 6 1 7)) ∧ (Int32.toInt r14 = 0 ∨ Int32.toInt (v15 4 0 6) ≤ Int32.toInt 9) := hr14
      obtain ⟨hI_v15, hr14_lo, hr14_hi, hr14_p0, hr14_p1, hr14_p2⟩ := hr14
      have : (0 : Int) ≤ (v12 6 1 6).toInt ∧ (v12 6 1 6).toInt ≤ (6 : Int) := hI_v12 6 1 6
      have : (0 : Int) ≤ (v12 6 1 7).toInt ∧ (v12 6 1 7).toInt ≤ (4 : Int) := hI_v12 6 1 7
      have : (9 : Int32).toInt = 9 := (by decide)
      refine ok_ite _ (fun c16 => ?_) (fun c16 => ?_)
      · skip
        have ic16 := i_eq c16
        try clear hr14_p2
        have : (0 : Int32).toInt = 0 := (by decide)
        refine ok_some ?_
        show PW rgX v15 ∧ (0 : Int) ≤ Int32.toInt (0 : Int32) ∧ Int32.toInt (0 : Int32) ≤ (1 : Int)
        have : (0 : Int32).toInt = 0 := (by decide)
        refine ⟨hI_v15, ?_⟩
        omega
      · skip
        have ic16 : Int32.toInt r14 = 1 := one_of hr14_lo hr14_hi c16
        try replace hr14_p2 : Int32.toInt (v15 4 0 6) ≤ Int32.toInt 9 := orr hr14_p2 ic16
        have : (0 : Int32).toInt = 0 := (by decide)
        refine ok_grd _ ?_ ?_
        · skip
          have : (0 : Int) ≤ (v15 6 1 7).toInt ∧ (v15 6 1 7).toInt ≤ (4 : Int) := hI_v15 6 1 7
          exact gr (by omega) (by omega)
        refine ok_let (fun v18 ev18 => ?_)
        have : (0 : Int) ≤ (v15 6 1 7).toInt ∧ (v15 6 1 7).toInt ≤ (4 : Int) := hI_v15 6 1 7
        have hI_v18 : PW rgX v18 := by rw [ev18]; exact hI_v15.up (by have h9 := i_bd r5; exact ⟨h9.1, Int.le_of_lt_add_one h9.2⟩)
        have := i_eq (show v18 4 0 5 = v15 4 0 5 by rw [ev18]; exact up3_t (by decide))
        have := i_eq (show v18 4 0 6 = v15 4 0 6 by rw [ev18]; exact up3_t (by decide))
        have := i_eq (show v18 6 1 7 = v15 6 1 7 by rw [ev18]; exact up3_t (by decide))
        refine ok_grd _ ?_ ?_
        · skip
          have : (0 : Int) ≤ (v18 6 1 7).toInt ∧ (v18 6 1 7).toInt ≤ (4 : Int) := hI_v18 6 1 7
          exact gr (by omega) (by omega)
        refine ok_let (fun v20 ev20 => ?_)
        have : (0 : Int) ≤ (v18 6 1 7).toInt ∧ (v18 6 1 7).toInt ≤ (4 : Int) := hI_v18 6 1 7
        have hI_v20 : PW rgX v20 := by rw [ev20]; exact hI_v18.up (by have h9 := i_bd (v18 4 0 6); exact ⟨h9.1, Int.le_of_lt_add_one h9.2⟩)
        have := i_eq (show v20 4 0 5 = v18 4 0 5 by rw [ev20]; exact up3_t (by decide))
        have := i_eq (show v20 4 0 6 = v18 4 0 6 by rw [ev20]; exact up3_t (by decide))
        have := i_eq (show v20 6 1 7 = v18 6 1 7 by rw [ev20]; exact up3_t (by decide))
        refine ok_let (fun v21 ev21 => ?_)
        have hI_v21 : PW rgX v21 := by
          rw [ev21]
          refine hI_v20.up ?_
          show (0 : Int) ≤ Int32.toInt ((v20 6 1 7) + 1) ∧ Int32.toInt ((v20 6 1 7) + 1) ≤ (4 : Int)
          have : (0 : Int) ≤ (v20 6 1 7).toInt ∧ (v20 6 1 7).toInt ≤ (4 : Int) := hI_v20 6 1 7
          have : (1 : Int32).toInt = 1 := (by decide)
          have := i_bd (v20 6 1 7)
          (first | have := sp_addx (v20 6 1 7) (1 : Int32) (by omega) | obtain ⟨k3, hk3⟩ := sp_add (v20 6 1 7) (1 : Int32))
          omega
        have := i_eq (show v21 4 0 5 = v20 4 0 5 by rw [ev21]; exact up3_t (by decide))
        have := i_eq (show v21 4 0 6 = v20 4 0 6 by rw [ev21]; exact up3_t (by decide))
        have := i_eq (show v21 6 1 7 = ((v20 6 1 7) + 1) by rw [ev21]; exact up3_s)
        have : (0 : Int) ≤ (v20 6 1 7).toInt ∧ (v20 6 1 7).toInt ≤ (4 : Int) := hI_v20 6 1 7
        have : (1 : Int32).toInt = 1 := (by decide)
        have := i_bd (v20 6 1 7)
        (first | have := sp_addx (v20 6 1 7) (1 : Int32) (by omega) | obtain ⟨k4, hk4⟩ := sp_add (v20 6 1 7) (1 : Int32))
        refine ok_kb2 (k_X6_readSign v21 hI_v21 59 (by have : (59 : Int32).toInt = 59 := (by decide); omega)) (fun r23 v24 hr23 => ?_)
        replace hr23 : PW rgX v24 ∧ (0 : Int) ≤ Int32.toInt r23 ∧ Int32.toInt r23 ≤ (1 : Int) ∧ (Int32.toInt (v24 6 1 6) = Int32.toInt (v21 6 1 6)) ∧ (Int32.toInt (v24 6 1 7) = Int32.toInt (v21 6 1 7)) ∧ (Int32.toInt r23 = 0 ∨ Int32.toInt (hereF v21) = Int32.toInt 59) := hr23
        obtain ⟨hI_v24, hr23_lo, hr23_hi, hr23_p0, hr23_p1, hr23_p2⟩ := hr23
        have : (0 : Int) ≤ (v21 6 1 6).toInt ∧ (v21 6 1 6).toInt ≤ (6 : Int) := hI_v21 6 1 6
        have : (0 : Int) ≤ (v21 6 1 7).toInt ∧ (v21 6 1 7).toInt ≤ (4 : Int) := hI_v21 6 1 7
        have : (59 : Int32).toInt = 59 := (by decide)
        refine ok_some ?_
        show PW rgX v24 ∧ (0 : Int) ≤ Int32.toInt r23 ∧ Int32.toInt r23 ≤ (1 : Int)
        refine ⟨hI_v24, ?_⟩
        omega
    · skip
      have ic11 := i_nlt c11
      have : (0 : Int) ≤ (v 6 1 7).toInt ∧ (v 6 1 7).toInt ≤ (4 : Int) := hI_v 6 1 7
      have : (4 : Int32).toInt = 4 := (by decide)
      refine ok_kb2 (k_X6_faulty v hI_v 3 ) (fun r26 v27 hr26 => ?_)
      replace hr26 : PW rgX v27 ∧ (0 : Int) ≤ Int32.toInt r26 ∧ Int32.toInt r26 ≤ (0 : Int) ∧ (Int32.toInt (v27 6 1 6) = Int32.toInt (v 6 1 6)) ∧ (Int32.toInt (v27 6 1 7) = Int32.toInt (v 6 1 7)) := hr26
      obtain ⟨hI_v27, hr26_lo, hr26_hi, hr26_p0, hr26_p1⟩ := hr26
      have : (0 : Int) ≤ (v 6 1 6).toInt ∧ (v 6 1 6).toInt ≤ (6 : Int) := hI_v 6 1 6
      have : (0 : Int) ≤ (v 6 1 7).toInt ∧ (v 6 1 7).toInt ≤ (4 : Int) := hI_v 6 1 7
      have : (3 : Int32).toInt = 3 := (by decide)
      refine ok_some ?_
      show PW rgX v27 ∧ (0 : Int) ≤ Int32.toInt r26 ∧ Int32.toInt r26 ≤ (1 : Int)
      refine ⟨hI_v27, ?_⟩
      omega
set_option maxHeartbeats 4000000 in
theorem k_X6_read (v : Mm) (hI_v : PW rgX v)  : ok (g_X6_read v ) (fun z => PW rgX z.2 ∧ (0 : Int) ≤ Int32.toInt (z.1) ∧ Int32.toInt (z.1) ≤ (1 : Int)) := by
  have loop80 : ∀ (n80 : Nat) (w80 : Mm) (x1_80 : Int32), (PW rgX w80) → ((0 : Int) ≤ Int32.toInt x1_80 ∧ Int32.toInt x1_80 ≤ (4 : Int)) → (4 - Int32.toInt x1_80 < (n80 : Int)) → ok (g_X6_read_L80   n80 w80 x1_80) (fun z => PW rgX z.2 ∧ (0 : Int) ≤ Int32.toInt (z.1) ∧ Int32.toInt (z.1) ≤ (1 : Int)) := by
    intro n80
    induction n80 with
    | zero =>
      intro w80 x1_80 hI_w80 hv0_80 hm80
      exfalso
      omega
    | succ n80 ih80 =>
      intro w80 x1_80 hI_w80 hv0_80 hm80
      show ok (b_X6_read_L80  (g_X6_read_L80   n80)  w80 x1_80) _
      unfold b_X6_read_L80
      refine ok_ite _ (fun c1 => ?_) (fun c1 => ?_)
      · skip
        have ic1 := i_le c1
        have : (4 : Int32).toInt = 4 := (by decide)
        refine ok_bind (k_X4_begin w80 hI_w80 1 (w80 6 1 7) (by have : (0 : Int) ≤ (w80 6 1 7).toInt ∧ (w80 6 1 7).toInt ≤ (4 : Int) := hI_w80 6 1 7; omega)) (fun v4 hr3 => ?_)
        replace hr3 : PW rgX v4 := hr3
        have hI_v4 := hr3
        clear hr3
        refine ok_some ?_
        show PW rgX v4 ∧ (0 : Int) ≤ Int32.toInt (1 : Int32) ∧ Int32.toInt (1 : Int32) ≤ (1 : Int)
        have : (1 : Int32).toInt = 1 := (by decide)
        refine ⟨hI_v4, ?_⟩
        omega
      · skip
        have ic1 := i_nle c1
        have : (4 : Int32).toInt = 4 := (by decide)
        refine ok_bind (k_X6_here w80 hI_w80  ) (fun r6 hr6 => ?_)
        replace hr6 : (-1 : Int) ≤ Int32.toInt r6 ∧ Int32.toInt r6 ≤ (255 : Int) ∧ (Int32.toInt r6 = Int32.toInt (hereF w80)) ∧ (Int32.toInt r6 = -1 ∨ Int32.toInt (w80 4 0 5) < Int32.toInt (w80 4 0 2)) := hr6
        obtain ⟨hr6_lo, hr6_hi, hr6_p0, hr6_p1⟩ := hr6
        have : (0 : Int) ≤ (w80 4 0 5).toInt ∧ (w80 4 0 5).toInt ≤ (100 : Int) := hI_w80 4 0 5
        have : (0 : Int) ≤ (w80 4 0 2).toInt ∧ (w80 4 0 2).toInt ≤ (100 : Int) := hI_w80 4 0 2
        refine ok_ite _ (fun c8 => ?_) (fun c8 => ?_)
        · skip
          have ic8 := i_eq c8
          have : (-1 : Int32).toInt = -1 := (by decide)
          refine ok_bind (k_X4_begin w80 hI_w80 1 (w80 6 1 7) (by have : (0 : Int) ≤ (w80 6 1 7).toInt ∧ (w80 6 1 7).toInt ≤ (4 : Int) := hI_w80 6 1 7; omega)) (fun v11 hr10 => ?_)
          replace hr10 : PW rgX v11 := hr10
          have hI_v11 := hr10
          clear hr10
          refine ok_some ?_
          show PW rgX v11 ∧ (0 : Int) ≤ Int32.toInt (1 : Int32) ∧ Int32.toInt (1 : Int32) ≤ (1 : Int)
          have : (1 : Int32).toInt = 1 := (by decide)
          refine ⟨hI_v11, ?_⟩
          omega
        · skip
          have ic8 := i_ne c8
          have : (-1 : Int32).toInt = -1 := (by decide)
          refine ok_kb2 (k_X6_readGuard w80 hI_w80  ) (fun r13 v14 hr13 => ?_)
          replace hr13 : PW rgX v14 ∧ (0 : Int) ≤ Int32.toInt r13 ∧ Int32.toInt r13 ≤ (1 : Int) := hr13
          obtain ⟨hI_v14, hr13_lo, hr13_hi⟩ := hr13
          refine ok_ite _ (fun c15 => ?_) (fun c15 => ?_)
          · skip
            have ic15 := i_eq c15
            have : (0 : Int32).toInt = 0 := (by decide)
            refine ok_some ?_
            show PW rgX v14 ∧ (0 : Int) ≤ Int32.toInt (0 : Int32) ∧ Int32.toInt (0 : Int32) ≤ (1 : Int)
            have : (0 : Int32).toInt = 0 := (by decide)
            refine ⟨hI_v14, ?_⟩
            omega
          · skip
            have ic15 : Int32.toInt r13 = 1 := one_of hr13_lo hr13_hi c15
            have : (0 : Int32).toInt = 0 := (by decide)
            have : (1 : Int32).toInt = 1 := (by decide)
            have := i_bd x1_80
            (first | have := sp_addx x1_80 (1 : Int32) (by omega) | obtain ⟨k1, hk1⟩ := sp_add x1_80 (1 : Int32))
            exact ih80 v14 (x1_80 + 1) hI_v14 (by omega) (by omega)
  have loop39 : ∀ (n39 : Nat) (w39 : Mm) (x1_39 : Int32), (PW rgX w39) → ((0 : Int) ≤ Int32.toInt x1_39 ∧ Int32.toInt x1_39 ≤ (6 : Int)) → (6 - Int32.toInt x1_39 < (n39 : Int)) → ok (g_X6_read_L39   n39 w39 x1_39) (fun z => PW rgX z.2 ∧ (0 : Int) ≤ Int32.toInt (z.1) ∧ Int32.toInt (z.1) ≤ (1 : Int)) := by
    intro n39
    induction n39 with
    | zero =>
      intro w39 x1_39 hI_w39 hv0_39 hm39
      exfalso
      omega
    | succ n39 ih39 =>
      intro w39 x1_39 hI_w39 hv0_39 hm39
      show ok (b_X6_read_L39  (g_X6_read_L39   n39)  w39 x1_39) _
      unfold b_X6_read_L39
      refine ok_ite _ (fun c16 => ?_) (fun c16 => ?_)
      · skip
        have ic16 := i_le c16
        have : (6 : Int32).toInt = 6 := (by decide)
        refine ok_kb2 (k_X6_readGuard w39 hI_w39  ) (fun r18 v19 hr18 => ?_)
        replace hr18 : PW rgX v19 ∧ (0 : Int) ≤ Int32.toInt r18 ∧ Int32.toInt r18 ≤ (1 : Int) := hr18
        obtain ⟨hI_v19, hr18_lo, hr18_hi⟩ := hr18
        refine ok_ite _ (fun c20 => ?_) (fun c20 => ?_)
        · skip
          have ic20 := i_eq c20
          have : (0 : Int32).toInt = 0 := (by decide)
          refine ok_some ?_
          show PW rgX v19 ∧ (0 : Int) ≤ Int32.toInt (0 : Int32) ∧ Int32.toInt (0 : Int32) ≤ (1 : Int)
          have : (0 : Int32).toInt = 0 := (by decide)
          refine ⟨hI_v19, ?_⟩
          omega
        · skip
          have ic20 : Int32.toInt r18 = 1 := one_of hr18_lo hr18_hi c20
          have : (0 : Int32).toInt = 0 := (by decide)
          have : (0 : Int32).toInt = 0 := (by decide)
          exact loop80 2000 v19 0 hI_v19 (by omega) (by omega)
      · skip
        have ic16 := i_nle c16
        have : (6 : Int32).toInt = 6 := (by decide)
        refine ok_bind (k_X6_here w39 hI_w39  ) (fun r22 hr22 => ?_)
        replace hr22 : (-1 : Int) ≤ Int32.toInt r22 ∧ Int32.toInt r22 ≤ (255 : Int) ∧ (Int32.toInt r22 = Int32.toInt (hereF w39)) ∧ (Int32.toInt r22 = -1 ∨ Int32.toInt (w39 4 0 5) < Int32.toInt (w39 4 0 2)) := hr22
        obtain ⟨hr22_lo, hr22_hi, hr22_p0, hr22_p1⟩ := hr22
        have : (0 : Int) ≤ (w39 4 0 5).toInt ∧ (w39 4 0 5).toInt ≤ (100 : Int) := hI_w39 4 0 5
        have : (0 : Int) ≤ (w39 4 0 2).toInt ∧ (w39 4 0 2).toInt ≤ (100 : Int) := hI_w39 4 0 2
        refine ok_ite _ (fun c24 => ?_) (fun c24 => ?_)
        · skip
          have ic24 := i_eq c24
          have : (119 : Int32).toInt = 119 := (by decide)
          refine ok_kb2 (k_X6_readWord w39 hI_w39  ) (fun r26 v27 hr26 => ?_)
          replace hr26 : PW rgX v27 ∧ (0 : Int) ≤ Int32.toInt r26 ∧ Int32.toInt r26 ≤ (1 : Int) := hr26
          obtain ⟨hI_v27, hr26_lo, hr26_hi⟩ := hr26
          refine ok_ite _ (fun c28 => ?_) (fun c28 => ?_)
          · skip
            have ic28 := i_eq c28
            have : (0 : Int32).toInt = 0 := (by decide)
            refine ok_some ?_
            show PW rgX v27 ∧ (0 : Int) ≤ Int32.toInt (0 : Int32) ∧ Int32.toInt (0 : Int32) ≤ (1 : Int)
            have : (0 : Int32).toInt = 0 := (by decide)
            refine ⟨hI_v27, ?_⟩
            omega
          · skip
            have ic28 : Int32.toInt r26 = 1 := one_of hr26_lo hr26_hi c28
            have : (0 : Int32).toInt = 0 := (by decide)
            have : (1 : Int32).toInt = 1 := (by decide)
            have := i_bd x1_39
            (first | have := sp_addx x1_39 (1 : Int32) (by omega) | obtain ⟨k2, hk2⟩ := sp_add x1_39 (1 : Int32))
            exact ih39 v27 (x1_39 + 1) hI_v27 (by omega) (by omega)
        · skip
          have ic24 := i_ne c24
          have : (119 : Int32).toInt = 119 := (by decide)
          refine ok_kb2 (k_X6_readGuard w39 hI_w39  ) (fun r30 v31 hr30 => ?_)
          replace hr30 : PW rgX v31 ∧ (0 : Int) ≤ Int32.toInt r30 ∧ Int32.toInt r30 ≤ (1 : Int) := hr30
          obtain ⟨hI_v31, hr30_lo, hr30_hi⟩ := hr30
          refine ok_ite _ (fun c32 => ?_) (fun c32 => ?_)
          · skip
            have ic32 := i_eq c32
            have : (0 : Int32).toInt = 0 := (by decide)
            refine ok_some ?_
            show PW rgX v31 ∧ (0 : Int) ≤ Int32.toInt (0 : Int32) ∧ Int32.toInt (0 : Int32) ≤ (1 : Int)
            have : (0 : Int32).toInt = 0 := (by decide)
            refine ⟨hI_v31, ?_⟩
            omega
          · skip
            have ic32 : Int32.toInt r30 = 1 := one_of hr30_lo hr30_hi c32
            have : (0 : Int32).toInt = 0 := (by decide)
            have : (0 : Int32).toInt = 0 := (by decide)
            exact loop80 2000 v31 0 hI_v31 (by omega) (by omega)
  unfold g_X6_read
  refine ok_let (fun v33 ev33 => ?_)
  have hI_v33 : PW rgX v33 := by
    rw [ev33]
    refine hI_v.up ?_
    show (0 : Int) ≤ Int32.toInt (0 : Int32) ∧ Int32.toInt (0 : Int32) ≤ (100 : Int)
    have : (0 : Int32).toInt = 0 := (by decide)
    omega
  have := i_eq (show v33 4 0 5 = 0 by rw [ev33]; exact up3_s)
  have : (0 : Int32).toInt = 0 := (by decide)
  have := i_eq (show v33 6 1 6 = v 6 1 6 by rw [ev33]; exact up3_t (by decide))
  have := i_eq (show v33 6 1 7 = v 6 1 7 by rw [ev33]; exact up3_t (by decide))
  refine ok_let (fun v34 ev34 => ?_)
  have hI_v34 : PW rgX v34 := by
    rw [ev34]
    refine hI_v33.up ?_
    show (0 : Int) ≤ Int32.toInt (0 : Int32) ∧ Int32.toInt (0 : Int32) ≤ (6 : Int)
    have : (0 : Int32).toInt = 0 := (by decide)
    omega
  have := i_eq (show v34 4 0 5 = v33 4 0 5 by rw [ev34]; exact up3_t (by decide))
  have := i_eq (show v34 6 1 6 = 0 by rw [ev34]; exact up3_s)
  have : (0 : Int32).toInt = 0 := (by decide)
  have := i_eq (show v34 6 1 7 = v33 6 1 7 by rw [ev34]; exact up3_j (by decide))
  refine ok_let (fun v35 ev35 => ?_)
  have hI_v35 : PW rgX v35 := by
    rw [ev35]
    refine hI_v34.up ?_
    show (0 : Int) ≤ Int32.toInt (0 : Int32) ∧ Int32.toInt (0 : Int32) ≤ (4 : Int)
    have : (0 : Int32).toInt = 0 := (by decide)
    omega
  have := i_eq (show v35 4 0 5 = v34 4 0 5 by rw [ev35]; exact up3_t (by decide))
  have := i_eq (show v35 6 1 6 = v34 6 1 6 by rw [ev35]; exact up3_j (by decide))
  have := i_eq (show v35 6 1 7 = 0 by rw [ev35]; exact up3_s)
  have : (0 : Int32).toInt = 0 := (by decide)
  refine ok_kb2 (k_X6_readLaw v35 hI_v35  ) (fun r37 v38 hr37 => ?_)
  replace hr37 : PW rgX v38 ∧ (0 : Int) ≤ Int32.toInt r37 ∧ Int32.toInt r37 ≤ (1 : Int) := hr37
  obtain ⟨hI_v38, hr37_lo, hr37_hi⟩ := hr37
  refine ok_ite _ (fun c39 => ?_) (fun c39 => ?_)
  · skip
    have ic39 := i_eq c39
    have : (0 : Int32).toInt = 0 := (by decide)
    refine ok_some ?_
    show PW rgX v38 ∧ (0 : Int) ≤ Int32.toInt (0 : Int32) ∧ Int32.toInt (0 : Int32) ≤ (1 : Int)
    have : (0 : Int32).toInt = 0 := (by decide)
    refine ⟨hI_v38, ?_⟩
    omega
  · skip
    have ic39 : Int32.toInt r37 = 1 := one_of hr37_lo hr37_hi c39
    have : (0 : Int32).toInt = 0 := (by decide)
    refine ok_kb2 (k_X6_readWord v38 hI_v38  ) (fun r41 v42 hr41 => ?_)
    replace hr41 : PW rgX v42 ∧ (0 : Int) ≤ Int32.toInt r41 ∧ Int32.toInt r41 ≤ (1 : Int) := hr41
    obtain ⟨hI_v42, hr41_lo, hr41_hi⟩ := hr41
    refine ok_ite _ (fun c43 => ?_) (fun c43 => ?_)
    · skip
      have ic43 := i_eq c43
      have : (0 : Int32).toInt = 0 := (by decide)
      refine ok_some ?_
      show PW rgX v42 ∧ (0 : Int) ≤ Int32.toInt (0 : Int32) ∧ Int32.toInt (0 : Int32) ≤ (1 : Int)
      have : (0 : Int32).toInt = 0 := (by decide)
      refine ⟨hI_v42, ?_⟩
      omega
    · skip
      have ic43 : Int32.toInt r41 = 1 := one_of hr41_lo hr41_hi c43
      have : (0 : Int32).toInt = 0 := (by decide)
      have : (0 : Int32).toInt = 0 := (by decide)
      exact loop39 2000 v42 0 hI_v42 (by omega) (by omega)
