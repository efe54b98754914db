/-- the past moved down by one -/
def SHF (v w : Mm) (k : Nat) : Prop := (∀ j, j < k → w 39 0 j = v 39 0 (j + 65)) ∧ (∀ t i j, ¬ (t = 39 ∧ i = 0 ∧ j < k) → w t i j = v t i j)
theorem SHF.IM {v w : Mm} (h : IM v) (hc : SHF v w 1495) : IM w := by
  refine ⟨fun t i j => ?_, h.2.1.eq (hc.2 _ _ _ (fun q => absurd q.1 (by decide))) (hc.2 _ _ _ (fun q => absurd q.1 (by decide))), fun s hs => ?_, fun s hs => (h.2.2.2 s hs).eq (hc.2 _ _ _ (fun q => absurd q.1 (by decide))) (hc.2 _ _ _ (fun q => absurd q.1 (by decide)))⟩
  · by_cases q : t = 39 ∧ i = 0 ∧ j < 1495
    · obtain ⟨rfl, rfl, q⟩ := q
      rw [hc.1 j q]
      have := h.1 39 0 (j + 65)
      rw [show rgM 39 (j + 65) = rgM 39 j by show rgG ((j + 65) % 65) = rgG (j % 65); rw [Nat.add_mod_right]] at this
      exact this
    · rw [hc.2 t i j q]; exact h.1 t i j
  · by_cases q : s < 23
    · refine (h.2.2.1 (s + 1) (by omega)).eq ?_ ?_
      · rw [hc.1 _ (by omega)]; exact congrArg _ (by omega)
      · rw [hc.1 _ (by omega)]; exact congrArg _ (by omega)
    · exact (h.2.2.1 s hs).eq (hc.2 _ _ _ (fun z => absurd z.2.2 (by omega))) (hc.2 _ _ _ (fun z => absurd z.2.2 (by omega)))
set_option maxHeartbeats 4000000 in
theorem k_X8_notes (v : Mm) (hI_v : IM v) : ok (g_X8_notes v) (fun z => IM z ∧ (Int32.toInt (z 36 0 0) = Int32.toInt (v 36 0 0)) ∧ (Int32.toInt (z 36 0 1) = Int32.toInt (v 36 0 1)) ∧ (Int32.toInt (z 36 0 2) = Int32.toInt (v 36 0 2)) ∧ (Int32.toInt (z 36 0 3) = Int32.toInt (v 36 0 3)) ∧ (Int32.toInt (z 36 0 4) = Int32.toInt (v 36 0 4)) ∧ (Int32.toInt (z 36 0 5) = Int32.toInt (v 36 0 5)) ∧ (Int32.toInt (z 36 0 6) = Int32.toInt (v 36 0 6)) ∧ (Int32.toInt (z 36 0 7) = Int32.toInt (v 36 0 7))) := by
  have e65 : (65 : Int32).toInt = 65 := by decide
  have e1 : (1 : Int32).toInt = 1 := by decide
  have e0 : (0 : Int32).toInt = 0 := by decide
  have e24 : (24 : Int32).toInt = 24 := by decide
  have e1495 : (1495 : Int32).toInt = 1495 := by decide
  have fin : ∀ w : Mm, (∀ t i j, ¬ t = 39 → ¬ t = 30 → w t i j = v t i j) → (Int32.toInt (w 36 0 0) = Int32.toInt (v 36 0 0)) ∧ (Int32.toInt (w 36 0 1) = Int32.toInt (v 36 0 1)) ∧ (Int32.toInt (w 36 0 2) = Int32.toInt (v 36 0 2)) ∧ (Int32.toInt (w 36 0 3) = Int32.toInt (v 36 0 3)) ∧ (Int32.toInt (w 36 0 4) = Int32.toInt (v 36 0 4)) ∧ (Int32.toInt (w 36 0 5) = Int32.toInt (v 36 0 5)) ∧ (Int32.toInt (w 36 0 6) = Int32.toInt (v 36 0 6)) ∧ (Int32.toInt (w 36 0 7) = Int32.toInt (v 36 0 7)) := fun w h => ⟨congrArg _ (h 36 0 0 (by decide) (by decide)), congrArg _ (h 36 0 1 (by decide) (by decide)), congrArg _ (h 36 0 2 (by decide) (by decide)), congrArg _ (h 36 0 3 (by decide) (by decide)), congrArg _ (h 36 0 4 (by decide) (by decide)), congrArg _ (h 36 0 5 (by decide) (by decide)), congrArg _ (h 36 0 6 (by decide) (by decide)), congrArg _ (h 36 0 7 (by decide) (by decide))⟩
  have loop : ∀ (n : Nat) (w : Mm) (x : Int32) (k : Nat), x.toInt = (k : Int) → k ≤ 1495 → 1495 < k + n → SHF v w k → (v 30 0 17).toInt = 24 → ok (g_X8_notes_L11 n w x) (fun z => IM z ∧ (Int32.toInt (z 36 0 0) = Int32.toInt (v 36 0 0)) ∧ (Int32.toInt (z 36 0 1) = Int32.toInt (v 36 0 1)) ∧ (Int32.toInt (z 36 0 2) = Int32.toInt (v 36 0 2)) ∧ (Int32.toInt (z 36 0 3) = Int32.toInt (v 36 0 3)) ∧ (Int32.toInt (z 36 0 4) = Int32.toInt (v 36 0 4)) ∧ (Int32.toInt (z 36 0 5) = Int32.toInt (v 36 0 5)) ∧ (Int32.toInt (z 36 0 6) = Int32.toInt (v 36 0 6)) ∧ (Int32.toInt (z 36 0 7) = Int32.toInt (v 36 0 7))) := by
    intro n
    induction n with
    | zero => intro w x k hx hk hn hc h24; exfalso; omega
    | succ n ih =>
      intro w x k hx hk hn hc h24
      show ok (b_X8_notes_L11 (g_X8_notes_L11 n) w x) _
      unfold b_X8_notes_L11
      refine ok_ite _ (fun c => ?_) (fun c => ?_)
      · have i1 := i_le c
        obtain rfl : k = 1495 := by omega
        have hw := hc.IM hI_v
        have h17 : (w 30 0 17).toInt = 24 := by rw [hc.2 30 0 17 (fun q => absurd q.1 (by decide))]; exact h24
        obtain ⟨q1, hq1⟩ := sp_sub (w 30 0 17) 1
        refine ok_let (fun v7 e7 => ?_)
        have h7 : IM v7 := by rw [e7]; exact hw.upo (by decide) (show (0 : Int) ≤ _ ∧ _ ≤ (24 : Int) by omega)
        have c7 : v7 30 0 17 = w 30 0 17 - 1 := by rw [e7]; exact up3_s
        have i7 := i_eq c7
        have hq2 := sp_cmulx 65 (v7 30 0 17) 65 (by decide) (by omega)
        refine ok_bind (k_X8_copies_36_39 v7 h7 0 ((65 : Int32) * (v7 30 0 17)) (by omega) (by omega) (by omega) (by omega)) (fun v10 h10 => ?_)
        have c10 := i_eq (h10.2 30 0 17 (by decide))
        obtain ⟨q3, hq3⟩ := sp_add (v10 30 0 17) 1
        refine ok_let (fun v11 e11 => ?_)
        have h11 : IM v11 := by rw [e11]; exact h10.1.upo (by decide) (show (0 : Int) ≤ _ ∧ _ ≤ (24 : Int) by omega)
        refine ok_some ⟨h11, fin v11 (fun t i j q1 q2 => ?_)⟩
        rw [e11, up3_t q2, h10.2 t i j q1, e7, up3_t q2]
        exact hc.2 t i j (fun z => q1 z.1)
      · have i1 := i_nle c
        obtain ⟨q1, hq1⟩ := sp_add x 65
        obtain ⟨q, hq⟩ := sp_add x 1
        have f1 : Int32.toNatClampNeg (x + 65) = k + 65 := by rw [tcn]; omega
        have f3 : Int32.toNatClampNeg x = k := by rw [tcn]; omega
        refine ok_grd _ (gr (by omega) (by omega)) ?_
        refine ok_grd _ (gr (by omega) (by omega)) ?_
        refine ok_let (fun w1 ew1 => ?_)
        rw [f1, f3] at ew1
        refine ih w1 (x + 1) (k + 1) (by omega) (by omega) (by omega) ⟨fun j hj => ?_, fun t i j hn => ?_⟩ h24
        · rw [ew1]
          by_cases q : j = k
          · subst q; rw [up3_s]; exact hc.2 39 0 (j + 65) (fun h => absurd h.2.2 (by omega))
          · rw [up3_j q]; exact hc.1 j (by omega)
        · rw [ew1]; unfold up3
          rw [if_neg (fun h => hn ⟨h.1, h.2.1, by omega⟩)]
          exact hc.2 t i j (fun h => hn ⟨h.1, h.2.1, by omega⟩)
  unfold g_X8_notes
  have h17 : (0 : Int) ≤ (v 30 0 17).toInt ∧ (v 30 0 17).toInt ≤ (24 : Int) := hI_v.1 30 0 17
  refine ok_ite _ (fun c => ?_) (fun c => ?_)
  · have i1 := i_eq c
    exact loop 2000 v 0 0 e0 (by omega) (by omega) ⟨fun j h => absurd h (by omega), fun t i j _ => rfl⟩ (by omega)
  · have i1 := i_ne c
    have hq2 := sp_cmulx 65 (v 30 0 17) 65 (by decide) (by omega)
    refine ok_bind (k_X8_copies_36_39 v hI_v 0 ((65 : Int32) * (v 30 0 17)) (by omega) (by omega) (by omega) (by omega)) (fun v4 h4 => ?_)
    have c4 := i_eq (h4.2 30 0 17 (by decide))
    obtain ⟨q3, hq3⟩ := sp_add (v4 30 0 17) 1
    refine ok_let (fun v5 e5 => ?_)
    have h5 : IM v5 := by rw [e5]; exact h4.1.upo (by decide) (show (0 : Int) ≤ _ ∧ _ ≤ (24 : Int) by omega)
    refine ok_some ⟨h5, fin v5 (fun t i j q1 q2 => ?_)⟩
    rw [e5, up3_t q2, h4.2 t i j q1]
set_option maxHeartbeats 4000000 in
theorem k_X8_forgets (v : Mm) (hI_v : IM v)  : ok (g_X8_forgets v ) (fun z => IM z ∧ (Int32.toInt (z 36 0 3) = Int32.toInt (v 36 0 3)) ∧ (Int32.toInt (z 36 0 5) = Int32.toInt (v 36 0 5))) := by
  have : ((v 36 0 3).toInt = 0 ∧ (v 36 0 4).toInt = 0) ∨ (0 < (v 36 0 3).toInt ∧ 0 < (v 36 0 4).toInt) := hI_v.2.1
  have loop3 : ∀ (n3 : Nat) (w3 : Mm) (x1_3 : Int32), (IM w3) → ((38 : Int) ≤ Int32.toInt x1_3 ∧ Int32.toInt x1_3 ≤ (65 : Int)) → (Int32.toInt (w3 36 0 3) = Int32.toInt (v 36 0 3)) → (Int32.toInt (w3 36 0 5) = Int32.toInt (v 36 0 5)) → (65 - Int32.toInt x1_3 < (n3 : Int)) → ok (g_X8_forgets_L3   n3 w3 x1_3) (fun z => IM z ∧ (Int32.toInt (z 36 0 3) = Int32.toInt (v 36 0 3)) ∧ (Int32.toInt (z 36 0 5) = Int32.toInt (v 36 0 5))) := by
    intro n3
    induction n3 with
    | zero =>
      intro w3 x1_3 hI_w3 hv0_3 hv1_3 hv2_3 hm3
      exfalso
      have : (0 : Int) ≤ (w3 36 0 3).toInt ∧ (w3 36 0 3).toInt ≤ (6 : Int) := hI_w3.1 36 0 3
      have : (0 : Int) ≤ (v 36 0 3).toInt ∧ (v 36 0 3).toInt ≤ (6 : Int) := hI_v.1 36 0 3
      have : (0 : Int) ≤ (w3 36 0 5).toInt ∧ (w3 36 0 5).toInt ≤ (999 : Int) := hI_w3.1 36 0 5
      have : (0 : Int) ≤ (v 36 0 5).toInt ∧ (v 36 0 5).toInt ≤ (999 : Int) := hI_v.1 36 0 5
      omega
    | succ n3 ih3 =>
      intro w3 x1_3 hI_w3 hv0_3 hv1_3 hv2_3 hm3
      show ok (b_X8_forgets_L3  (g_X8_forgets_L3   n3)  w3 x1_3) _
      unfold b_X8_forgets_L3
      try rw [tc_7]
      have : ((w3 36 0 3).toInt = 0 ∧ (w3 36 0 4).toInt = 0) ∨ (0 < (w3 36 0 3).toInt ∧ 0 < (w3 36 0 4).toInt) := hI_w3.2.1
      have : (0 : Int) ≤ (w3 36 0 3).toInt ∧ (w3 36 0 3).toInt ≤ (6 : Int) := hI_w3.1 36 0 3
      have : (0 : Int) ≤ (v 36 0 3).toInt ∧ (v 36 0 3).toInt ≤ (6 : Int) := hI_v.1 36 0 3
      have : (0 : Int) ≤ (w3 36 0 5).toInt ∧ (w3 36 0 5).toInt ≤ (999 : Int) := hI_w3.1 36 0 5
      have : (0 : Int) ≤ (v 36 0 5).toInt ∧ (v 36 0 5).toInt ≤ (999 : Int) := hI_v.1 36 0 5
      refine ok_ite _ (fun c1 => ?_) (fun c1 => ?_)
      · skip
        have ic1 := i_le c1
        have : (65 : Int32).toInt = 65 := (by decide)
        refine ok_let (fun v2 ev2 => ?_)
        have hI_v2 : IM v2 := by
          rw [ev2]
          refine hI_w3.upg (by decide) ?_
          show (0 : Int) ≤ Int32.toInt (0 : Int32) ∧ Int32.toInt (0 : Int32) ≤ (9 : Int)
          have : (0 : Int32).toInt = 0 := (by decide)
          omega
        have := i_eq (show v2 36 0 3 = w3 36 0 3 by rw [ev2]; exact up3_j (by decide))
        have := i_eq (show v2 36 0 5 = w3 36 0 5 by rw [ev2]; exact up3_j (by decide))
        have := i_eq (show v2 36 0 7 = 0 by rw [ev2]; exact up3_s)
        have : (0 : Int32).toInt = 0 := (by decide)
        have : ((v2 36 0 3).toInt = 0 ∧ (v2 36 0 4).toInt = 0) ∨ (0 < (v2 36 0 3).toInt ∧ 0 < (v2 36 0 4).toInt) := hI_v2.2.1
        refine ok_some ?_
        show IM v2 ∧ (Int32.toInt (v2 36 0 3) = Int32.toInt (v 36 0 3)) ∧ (Int32.toInt (v2 36 0 5) = Int32.toInt (v 36 0 5))
        refine ⟨hI_v2, ?_⟩
        omega
      · skip
        have ic1 := i_nle c1
        have : (65 : Int32).toInt = 65 := (by decide)
        refine ok_grd _ ?_ ?_
        · skip
          exact gr (by omega) (by omega)
        refine ok_let (fun v4 ev4 => ?_)
        have : (0 : Int32).toInt = 0 := (by decide)
        have hI_v4 : IM v4 := by
          rw [ev4]
          first | exact hI_w3.um (by omega) (by omega) | exact hI_w3.uw (by omega) (by omega) (by omega) (by omega) | exact hI_w3.ug (by omega) (by omega) (by omega) (by omega) | exact hI_w3.ut (by omega) (by omega) | exact hI_w3.u0 (by omega)
        (try have := i_eq (show v4 36 0 3 = w3 36 0 3 by rw [ev4]; exact up3_j (tcne (by omega) (by omega))))
        (try have := i_eq (show v4 36 0 5 = w3 36 0 5 by rw [ev4]; exact up3_j (tcne (by omega) (by omega))))
        (try have := i_eq (show v4 36 0 7 = w3 36 0 7 by rw [ev4]; exact up3_j (tcne (by omega) (by omega))))
        have : ((v4 36 0 3).toInt = 0 ∧ (v4 36 0 4).toInt = 0) ∨ (0 < (v4 36 0 3).toInt ∧ 0 < (v4 36 0 4).toInt) := hI_v4.2.1
        have : (1 : Int32).toInt = 1 := (by decide)
        have := i_bd x1_3
        (first | have := sp_addx x1_3 (1 : Int32) (by omega) | obtain ⟨k1, hk1⟩ := sp_add x1_3 (1 : Int32))
        exact ih3 v4 (x1_3 + 1) hI_v4 (by omega) (by omega) (by omega) (by omega)
  unfold g_X8_forgets
  try rw [tc_7]
  have : (38 : Int32).toInt = 38 := (by decide)
  exact loop3 2000 v 38 hI_v (by omega) (by omega) (by omega) (by omega)
set_option maxHeartbeats 4000000 in
theorem k_X8_nights (v : Mm) (hI_v : IM v) (a1 : Int32) : ok (g_X8_nights v a1) (fun z => IM z.2) := by
  have : ((v 36 0 3).toInt = 0 ∧ (v 36 0 4).toInt = 0) ∨ (0 < (v 36 0 3).toInt ∧ 0 < (v 36 0 4).toInt) := hI_v.2.1
  have loop42 : ∀ (n42 : Nat) (w42 : Mm) (x2_42 : Int32), (IM w42) → ((0 : Int) ≤ Int32.toInt x2_42 ∧ Int32.toInt x2_42 ≤ (24 : Int)) → (0 < Int32.toInt (w42 36 0 3)) → (Int32.toInt a1 ≤ 24) → (Int32.toInt x2_42 ≤ Int32.toInt a1) → (Int32.toInt (w42 36 0 5) + Int32.toInt a1 - Int32.toInt x2_42 ≤ 999) → (24 - Int32.toInt x2_42 < (n42 : Int)) → ok (g_X8_nights_L42  a1 n42 w42 x2_42) (fun z => IM z.2) := by
    intro n42
    induction n42 with
    | zero =>
      intro w42 x2_42 hI_w42 hv0_42 hv1_42 hv2_42 hv3_42 hv4_42 hm42
      exfalso
      have : (0 : Int) ≤ (w42 36 0 3).toInt ∧ (w42 36 0 3).toInt ≤ (6 : Int) := hI_w42.1 36 0 3
      have : (0 : Int) ≤ (w42 36 0 5).toInt ∧ (w42 36 0 5).toInt ≤ (999 : Int) := hI_w42.1 36 0 5
      omega
    | succ n42 ih42 =>
      intro w42 x2_42 hI_w42 hv0_42 hv1_42 hv2_42 hv3_42 hv4_42 hm42
      show ok (b_X8_nights_L42  (g_X8_nights_L42  a1 n42) a1 w42 x2_42) _
      unfold b_X8_nights_L42
      try rw [tc_5]
      have : ((w42 36 0 3).toInt = 0 ∧ (w42 36 0 4).toInt = 0) ∨ (0 < (w42 36 0 3).toInt ∧ 0 < (w42 36 0 4).toInt) := hI_w42.2.1
      have : (0 : Int) ≤ (w42 36 0 3).toInt ∧ (w42 36 0 3).toInt ≤ (6 : Int) := hI_w42.1 36 0 3
      have : (0 : Int) ≤ (w42 36 0 5).toInt ∧ (w42 36 0 5).toInt ≤ (999 : Int) := hI_w42.1 36 0 5
      refine ok_ite _ (fun c1 => ?_) (fun c1 => ?_)
      · skip
        have ic1 := i_le c1
        refine ok_bind (k_X8_secretOf_36 w42 hI_w42 (w42 36 0 5) (by have : (0 : Int) ≤ (w42 36 0 5).toInt ∧ (w42 36 0 5).toInt ≤ (999 : Int) := hI_w42.1 36 0 5; omega) (by omega)) (fun r3 hr3 => ?_)
        replace hr3 : (0 : Int) ≤ Int32.toInt r3 ∧ Int32.toInt r3 ≤ (5 : Int) := hr3
        obtain ⟨hr3_lo, hr3_hi⟩ := hr3
        refine ok_some ?_
        show IM w42
        exact hI_w42
      · skip
        have ic1 := i_nle c1
        refine ok_bind (k_X8_notes w42 hI_w42  ) (fun v7 hr6 => ?_)
        replace hr6 : IM v7 ∧ (Int32.toInt (v7 36 0 0) = Int32.toInt (w42 36 0 0)) ∧ (Int32.toInt (v7 36 0 1) = Int32.toInt (w42 36 0 1)) ∧ (Int32.toInt (v7 36 0 2) = Int32.toInt (w42 36 0 2)) ∧ (Int32.toInt (v7 36 0 3) = Int32.toInt (w42 36 0 3)) ∧ (Int32.toInt (v7 36 0 4) = Int32.toInt (w42 36 0 4)) ∧ (Int32.toInt (v7 36 0 5) = Int32.toInt (w42 36 0 5)) ∧ (Int32.toInt (v7 36 0 6) = Int32.toInt (w42 36 0 6)) ∧ (Int32.toInt (v7 36 0 7) = Int32.toInt (w42 36 0 7)) := hr6
        obtain ⟨hI_v7, hr6_p0, hr6_p1, hr6_p2, hr6_p3, hr6_p4, hr6_p5, hr6_p6, hr6_p7⟩ := hr6
        have : ((v7 36 0 3).toInt = 0 ∧ (v7 36 0 4).toInt = 0) ∨ (0 < (v7 36 0 3).toInt ∧ 0 < (v7 36 0 4).toInt) := hI_v7.2.1
        have : (0 : Int) ≤ (w42 36 0 0).toInt ∧ (w42 36 0 0).toInt ≤ (9 : Int) := hI_w42.1 36 0 0
        have : (0 : Int) ≤ (w42 36 0 1).toInt ∧ (w42 36 0 1).toInt ≤ (9 : Int) := hI_w42.1 36 0 1
        have : (0 : Int) ≤ (w42 36 0 2).toInt ∧ (w42 36 0 2).toInt ≤ (6 : Int) := hI_w42.1 36 0 2
        have : (0 : Int) ≤ (w42 36 0 3).toInt ∧ (w42 36 0 3).toInt ≤ (6 : Int) := hI_w42.1 36 0 3
        have : (0 : Int) ≤ (w42 36 0 4).toInt ∧ (w42 36 0 4).toInt ≤ (4 : Int) := hI_w42.1 36 0 4
        have : (0 : Int) ≤ (w42 36 0 5).toInt ∧ (w42 36 0 5).toInt ≤ (999 : Int) := hI_w42.1 36 0 5
        have : (0 : Int) ≤ (w42 36 0 6).toInt ∧ (w42 36 0 6).toInt ≤ (15 : Int) := hI_w42.1 36 0 6
        have : (0 : Int) ≤ (w42 36 0 7).toInt ∧ (w42 36 0 7).toInt ≤ (9 : Int) := hI_w42.1 36 0 7
        refine ok_let (fun v8 ev8 => ?_)
        have hI_v8 : IM v8 := by
          rw [ev8]
          refine hI_v7.upg (by decide) ?_
          show (0 : Int) ≤ Int32.toInt ((v7 36 0 5) + 1) ∧ Int32.toInt ((v7 36 0 5) + 1) ≤ (999 : Int)
          have : (0 : Int) ≤ (v7 36 0 5).toInt ∧ (v7 36 0 5).toInt ≤ (999 : Int) := hI_v7.1 36 0 5
          have : (1 : Int32).toInt = 1 := (by decide)
          have := i_bd (v7 36 0 5)
          (first | have := sp_addx (v7 36 0 5) (1 : Int32) (by omega) | obtain ⟨k1, hk1⟩ := sp_add (v7 36 0 5) (1 : Int32))
          omega
        have := i_eq (show v8 36 0 3 = v7 36 0 3 by rw [ev8]; exact up3_j (by decide))
        have := i_eq (show v8 36 0 5 = ((v7 36 0 5) + 1) by rw [ev8]; exact up3_s)
        have : (0 : Int) ≤ (v7 36 0 5).toInt ∧ (v7 36 0 5).toInt ≤ (999 : Int) := hI_v7.1 36 0 5
        have : (1 : Int32).toInt = 1 := (by decide)
        have := i_bd (v7 36 0 5)
        (first | have := sp_addx (v7 36 0 5) (1 : Int32) (by omega) | obtain ⟨k2, hk2⟩ := sp_add (v7 36 0 5) (1 : Int32))
        have : ((v8 36 0 3).toInt = 0 ∧ (v8 36 0 4).toInt = 0) ∨ (0 < (v8 36 0 3).toInt ∧ 0 < (v8 36 0 4).toInt) := hI_v8.2.1
        refine ok_bind (k_X8_forgets v8 hI_v8  ) (fun v11 hr10 => ?_)
        replace hr10 : IM v11 ∧ (Int32.toInt (v11 36 0 3) = Int32.toInt (v8 36 0 3)) ∧ (Int32.toInt (v11 36 0 5) = Int32.toInt (v8 36 0 5)) := hr10
        obtain ⟨hI_v11, hr10_p0, hr10_p1⟩ := hr10
        have : ((v11 36 0 3).toInt = 0 ∧ (v11 36 0 4).toInt = 0) ∨ (0 < (v11 36 0 3).toInt ∧ 0 < (v11 36 0 4).toInt) := hI_v11.2.1
        have : (0 : Int) ≤ (v8 36 0 3).toInt ∧ (v8 36 0 3).toInt ≤ (6 : Int) := hI_v8.1 36 0 3
        have : (0 : Int) ≤ (v8 36 0 5).toInt ∧ (v8 36 0 5).toInt ≤ (999 : Int) := hI_v8.1 36 0 5
        have : (1 : Int32).toInt = 1 := (by decide)
        have := i_bd x2_42
        (first | have := sp_addx x2_42 (1 : Int32) (by omega) | obtain ⟨k3, hk3⟩ := sp_add x2_42 (1 : Int32))
        exact ih42 v11 (x2_42 + 1) hI_v11 (by omega) (by omega) (by omega) (by omega) (by omega) (by omega)
  unfold g_X8_nights
  try rw [tc_5]
  refine ok_bind (k_X8_isGate v hI_v  ) (fun r13 hr13 => ?_)
  replace hr13 : (0 : Int) ≤ Int32.toInt r13 ∧ Int32.toInt r13 ≤ (1 : Int) ∧ ((Int32.toInt r13 = 0 ∧ Int32.toInt (v 36 0 3) = 0) ∨ 0 < Int32.toInt (v 36 0 3)) := hr13
  obtain ⟨hr13_lo, hr13_hi, hr13_p0⟩ := hr13
  have : (0 : Int) ≤ (v 36 0 3).toInt ∧ (v 36 0 3).toInt ≤ (6 : Int) := hI_v.1 36 0 3
  refine ok_ite _ (fun c15 => ?_) (fun c15 => ?_)
  · skip
    have ic15 := i_eq c15
    have : (0 : Int32).toInt = 0 := (by decide)
    refine ok_some ?_
    show IM v
    have : (-1000002 : Int32).toInt = -1000002 := (by decide)
    exact hI_v
  · skip
    have ic15 : Int32.toInt r13 = 1 := one_of hr13_lo hr13_hi c15
    have : (0 : Int32).toInt = 0 := (by decide)
    refine ok_bind (k_X8_in v hI_v a1 1 24 ) (fun r17 hr17 => ?_)
    replace hr17 : (0 : Int) ≤ Int32.toInt r17 ∧ Int32.toInt r17 ≤ (1 : Int) ∧ (Int32.toInt r17 = 0 ∨ (Int32.toInt 1 ≤ Int32.toInt a1 ∧ Int32.toInt a1 ≤ Int32.toInt 24)) := hr17
    obtain ⟨hr17_lo, hr17_hi, hr17_p0⟩ := hr17
    have : (1 : Int32).toInt = 1 := (by decide)
    have : (24 : Int32).toInt = 24 := (by decide)
    refine ok_ite _ (fun c19 => ?_) (fun c19 => ?_)
    · skip
      have ic19 := i_eq c19
      try clear hr17_p0
      have : (0 : Int32).toInt = 0 := (by decide)
      refine ok_some ?_
      show IM v
      have : (-1000001 : Int32).toInt = -1000001 := (by decide)
      exact hI_v
    · skip
      have ic19 : Int32.toInt r17 = 1 := one_of hr17_lo hr17_hi c19
      try replace hr17_p0 : (Int32.toInt 1 ≤ Int32.toInt a1 ∧ Int32.toInt a1 ≤ Int32.toInt 24) := orr hr17_p0 ic19
      have : (0 : Int32).toInt = 0 := (by decide)
      refine ok_ite _ (fun c20 => ?_) (fun c20 => ?_)
      · skip
        have ic20 := i_le c20
        have : (0 : Int) ≤ (v 36 0 5).toInt ∧ (v 36 0 5).toInt ≤ (999 : Int) := hI_v.1 36 0 5
        have := i_bd (v 36 0 5)
        have := i_bd a1
        (first | have := sp_addx (v 36 0 5) a1 (by omega) | obtain ⟨k4, hk4⟩ := sp_add (v 36 0 5) a1)
        have : (999 : Int32).toInt = 999 := (by decide)
        have : (0 : Int32).toInt = 0 := (by decide)
        exact loop42 2000 v 0 hI_v (by omega) (by omega) (by omega) (by omega) (by omega) (by omega)
      · skip
        have ic20 := i_nle c20
        have : (0 : Int) ≤ (v 36 0 5).toInt ∧ (v 36 0 5).toInt ≤ (999 : Int) := hI_v.1 36 0 5
        have := i_bd (v 36 0 5)
        have := i_bd a1
        (first | have := sp_addx (v 36 0 5) a1 (by omega) | obtain ⟨k5, hk5⟩ := sp_add (v 36 0 5) a1)
        have : (999 : Int32).toInt = 999 := (by decide)
        refine ok_some ?_
        show IM v
        have : (-1000003 : Int32).toInt = -1000003 := (by decide)
        exact hI_v
set_option maxHeartbeats 4000000 in
theorem k_X8_say (v : Mm) (hI_v : IM v) (a1 : Int32) (a2 : Int32) : ok (g_X8_say v a1 a2) (fun z => IM z.2) := by
  have : ((v 36 0 3).toInt = 0 ∧ (v 36 0 4).toInt = 0) ∨ (0 < (v 36 0 3).toInt ∧ 0 < (v 36 0 4).toInt) := hI_v.2.1
  unfold g_X8_say
  try rw [tc_5]
  try rw [tc_6]
  try rw [tc_7]
  refine ok_bind (k_X8_isWord v hI_v a1 ) (fun r2 hr2 => ?_)
  replace hr2 : (0 : Int) ≤ Int32.toInt r2 ∧ Int32.toInt r2 ≤ (1 : Int) ∧ ((Int32.toInt r2 = 0 ∨ (0 ≤ Int32.toInt a1 ∧ Int32.toInt a1 ≤ 5 ∧ 0 < Int32.toInt (v 36 0 3)))) := hr2
  obtain ⟨hr2_lo, hr2_hi, hr2_p0⟩ := hr2
  have : (0 : Int) ≤ (v 36 0 3).toInt ∧ (v 36 0 3).toInt ≤ (6 : Int) := hI_v.1 36 0 3
  refine ok_ite _ (fun c4 => ?_) (fun c4 => ?_)
  · skip
    have ic4 := i_eq c4
    try clear hr2_p0
    have : (0 : Int32).toInt = 0 := (by decide)
    refine ok_some ?_
    show IM v
    have : (-1000001 : Int32).toInt = -1000001 := (by decide)
    exact hI_v
  · skip
    have ic4 : Int32.toInt r2 = 1 := one_of hr2_lo hr2_hi c4
    try replace hr2_p0 : (0 ≤ Int32.toInt a1 ∧ Int32.toInt a1 ≤ 5 ∧ 0 < Int32.toInt (v 36 0 3)) := orr hr2_p0 ic4
    have : (0 : Int32).toInt = 0 := (by decide)
    refine ok_bind (k_X8_isHour v hI_v a2 ) (fun r6 hr6 => ?_)
    replace hr6 : (0 : Int) ≤ Int32.toInt r6 ∧ Int32.toInt r6 ≤ (1 : Int) ∧ ((Int32.toInt r6 = 0 ∨ (0 ≤ Int32.toInt a2 ∧ Int32.toInt a2 ≤ 5))) := hr6
    obtain ⟨hr6_lo, hr6_hi, hr6_p0⟩ := hr6
    refine ok_ite _ (fun c8 => ?_) (fun c8 => ?_)
    · skip
      have ic8 := i_eq c8
      try clear hr6_p0
      have : (0 : Int32).toInt = 0 := (by decide)
      refine ok_some ?_
      show IM v
      have : (-1000001 : Int32).toInt = -1000001 := (by decide)
      exact hI_v
    · skip
      have ic8 : Int32.toInt r6 = 1 := one_of hr6_lo hr6_hi c8
      try replace hr6_p0 : (0 ≤ Int32.toInt a2 ∧ Int32.toInt a2 ≤ 5) := orr hr6_p0 ic8
      have : (0 : Int32).toInt = 0 := (by decide)
      refine ok_ite _ (fun c9 => ?_) (fun c9 => ?_)
      · skip
        have ic9 := i_eq c9
        have : (0 : Int) ≤ (v 36 0 7).toInt ∧ (v 36 0 7).toInt ≤ (9 : Int) := hI_v.1 36 0 7
        have : (9 : Int32).toInt = 9 := (by decide)
        refine ok_some ?_
        show IM v
        have : (-1000003 : Int32).toInt = -1000003 := (by decide)
        exact hI_v
      · skip
        have ic9 := i_ne c9
        have : (0 : Int) ≤ (v 36 0 7).toInt ∧ (v 36 0 7).toInt ≤ (9 : Int) := hI_v.1 36 0 7
        have : (9 : Int32).toInt = 9 := (by decide)
        refine ok_bind (k_X8_notes v hI_v  ) (fun v12 hr11 => ?_)
        replace hr11 : IM v12 ∧ (Int32.toInt (v12 36 0 0) = Int32.toInt (v 36 0 0)) ∧ (Int32.toInt (v12 36 0 1) = Int32.toInt (v 36 0 1)) ∧ (Int32.toInt (v12 36 0 2) = Int32.toInt (v 36 0 2)) ∧ (Int32.toInt (v12 36 0 3) = Int32.toInt (v 36 0 3)) ∧ (Int32.toInt (v12 36 0 4) = Int32.toInt (v 36 0 4)) ∧ (Int32.toInt (v12 36 0 5) = Int32.toInt (v 36 0 5)) ∧ (Int32.toInt (v12 36 0 6) = Int32.toInt (v 36 0 6)) ∧ (Int32.toInt (v12 36 0 7) = Int32.toInt (v 36 0 7)) := hr11
        obtain ⟨hI_v12, hr11_p0, hr11_p1, hr11_p2, hr11_p3, hr11_p4, hr11_p5, hr11_p6, hr11_p7⟩ := hr11
        have : ((v12 36 0 3).toInt = 0 ∧ (v12 36 0 4).toInt = 0) ∨ (0 < (v12 36 0 3).toInt ∧ 0 < (v12 36 0 4).toInt) := hI_v12.2.1
        have : (0 : Int) ≤ (v 36 0 0).toInt ∧ (v 36 0 0).toInt ≤ (9 : Int) := hI_v.1 36 0 0
        have : (0 : Int) ≤ (v 36 0 1).toInt ∧ (v 36 0 1).toInt ≤ (9 : Int) := hI_v.1 36 0 1
        have : (0 : Int) ≤ (v 36 0 2).toInt ∧ (v 36 0 2).toInt ≤ (6 : Int) := hI_v.1 36 0 2
        have : (0 : Int) ≤ (v 36 0 3).toInt ∧ (v 36 0 3).toInt ≤ (6 : Int) := hI_v.1 36 0 3
        have : (0 : Int) ≤ (v 36 0 4).toInt ∧ (v 36 0 4).toInt ≤ (4 : Int) := hI_v.1 36 0 4
        have : (0 : Int) ≤ (v 36 0 5).toInt ∧ (v 36 0 5).toInt ≤ (999 : Int) := hI_v.1 36 0 5
        have : (0 : Int) ≤ (v 36 0 6).toInt ∧ (v 36 0 6).toInt ≤ (15 : Int) := hI_v.1 36 0 6
        have : (0 : Int) ≤ (v 36 0 7).toInt ∧ (v 36 0 7).toInt ≤ (9 : Int) := hI_v.1 36 0 7
        refine ok_bind (k_X8_guardOn v12 hI_v12 a2 (v12 36 0 5) (by omega) (by have : (0 : Int) ≤ (v12 36 0 5).toInt ∧ (v12 36 0 5).toInt ≤ (999 : Int) := hI_v12.1 36 0 5; omega) (by omega)) (fun r14 hr14 => ?_)
        replace hr14 : (0 : Int) ≤ Int32.toInt r14 ∧ Int32.toInt r14 ≤ (3 : Int) := hr14
        obtain ⟨hr14_lo, hr14_hi⟩ := hr14
        refine ok_bind (k_X8_isTakenNow v12 hI_v12 a1 a2 0 (by omega) (by omega) (by have : (0 : Int32).toInt = 0 := (by decide); omega) (by omega) (by omega)) (fun r17 hr17 => ?_)
        replace hr17 : (0 : Int) ≤ Int32.toInt r17 ∧ Int32.toInt r17 ≤ (1 : Int) := hr17
        obtain ⟨hr17_lo, hr17_hi⟩ := hr17
        refine ok_ite _ (fun c19 => ?_) (fun c19 => ?_)
        · skip
          have ic19 := i_eq c19
          have : (0 : Int32).toInt = 0 := (by decide)
          refine ok_let (fun x20 ex20 => ?_)
          have : (38 : Int32).toInt = 38 := (by decide)
          have : (3 : Int32).toInt = 3 := (by decide)
          have : (0 : Int) ≤ (v12 36 0 7).toInt ∧ (v12 36 0 7).toInt ≤ (9 : Int) := hI_v12.1 36 0 7
          (first | have := sp_cmulx (3 : Int32) (v12 36 0 7) 3 (by decide) (by omega) | obtain ⟨k1, hk1⟩ := sp_cmul (3 : Int32) (v12 36 0 7) 3 (by decide))
          (first | have := sp_addx (38 : Int32) ((3 : Int32) * (v12 36 0 7)) (by omega) | obtain ⟨k2, hk2⟩ := sp_add (38 : Int32) ((3 : Int32) * (v12 36 0 7)))
          have := i_eq ex20
          refine ok_grd _ ?_ ?_
          · skip
            exact gr (by omega) (by omega)
          refine ok_let (fun v22 ev22 => ?_)
          have hI_v22 : IM v22 := by
            rw [ev22]
            first | exact hI_v12.um (by omega) (by omega) | exact hI_v12.uw (by omega) (by omega) (by omega) (by omega) | exact hI_v12.ug (by omega) (by omega) (by omega) (by omega) | exact hI_v12.ut (by omega) (by omega) | exact hI_v12.u0 (by omega)
          (try have := i_eq (show v22 36 0 5 = v12 36 0 5 by rw [ev22]; exact up3_j (tcne (by omega) (by omega))))
          (try have := i_eq (show v22 36 0 6 = v12 36 0 6 by rw [ev22]; exact up3_j (tcne (by omega) (by omega))))
          (try have := i_eq (show v22 36 0 7 = v12 36 0 7 by rw [ev22]; exact up3_j (tcne (by omega) (by omega))))
          have : ((v22 36 0 3).toInt = 0 ∧ (v22 36 0 4).toInt = 0) ∨ (0 < (v22 36 0 3).toInt ∧ 0 < (v22 36 0 4).toInt) := hI_v22.2.1
          refine ok_bind (k_X8_has v22 hI_v22 (v22 36 0 6) r14 ) (fun r24 hr24 => ?_)
          replace hr24 : (0 : Int) ≤ Int32.toInt r24 ∧ Int32.toInt r24 ≤ (1 : Int) := hr24
          obtain ⟨hr24_lo, hr24_hi⟩ := hr24
          refine ok_ite _ (fun c26 => ?_) (fun c26 => ?_)
          · skip
            have ic26 := i_eq c26
            have : (0 : Int32).toInt = 0 := (by decide)
            refine ok_grd _ ?_ ?_
            · skip
              have : (1 : Int32).toInt = 1 := (by decide)
              have := i_bd x20
              (first | have := sp_addx x20 (1 : Int32) (by omega) | obtain ⟨k3, hk3⟩ := sp_add x20 (1 : Int32))
              exact gr (by omega) (by omega)
            refine ok_let (fun v28 ev28 => ?_)
            have : (1 : Int32).toInt = 1 := (by decide)
            have := i_bd x20
            (first | have := sp_addx x20 (1 : Int32) (by omega) | obtain ⟨k4, hk4⟩ := sp_add x20 (1 : Int32))
            have : (0 : Int32).toInt = 0 := (by decide)
            have hI_v28 : IM v28 := by
              rw [ev28]
              first | exact hI_v22.um (by omega) (by omega) | exact hI_v22.uw (by omega) (by omega) (by omega) (by omega) | exact hI_v22.ug (by omega) (by omega) (by omega) (by omega) | exact hI_v22.ut (by omega) (by omega) | exact hI_v22.u0 (by omega)
            (try have := i_eq (show v28 36 0 5 = v22 36 0 5 by rw [ev28]; exact up3_j (tcne (by omega) (by omega))))
            (try have := i_eq (show v28 36 0 6 = v22 36 0 6 by rw [ev28]; exact up3_j (tcne (by omega) (by omega))))
            (try have := i_eq (show v28 36 0 7 = v22 36 0 7 by rw [ev28]; exact up3_j (tcne (by omega) (by omega))))
            have : ((v28 36 0 3).toInt = 0 ∧ (v28 36 0 4).toInt = 0) ∨ (0 < (v28 36 0 3).toInt ∧ 0 < (v28 36 0 4).toInt) := hI_v28.2.1
            refine ok_grd _ ?_ ?_
            · skip
              have : (2 : Int32).toInt = 2 := (by decide)
              have := i_bd x20
              (first | have := sp_addx x20 (2 : Int32) (by omega) | obtain ⟨k5, hk5⟩ := sp_add x20 (2 : Int32))
              exact gr (by omega) (by omega)
            refine ok_let (fun v30 ev30 => ?_)
            have : (2 : Int32).toInt = 2 := (by decide)
            have := i_bd x20
            (first | have := sp_addx x20 (2 : Int32) (by omega) | obtain ⟨k6, hk6⟩ := sp_add x20 (2 : Int32))
            have : (0 : Int32).toInt = 0 := (by decide)
            have hI_v30 : IM v30 := by
              rw [ev30]
              first | exact hI_v28.um (by omega) (by omega) | exact hI_v28.uw (by omega) (by omega) (by omega) (by omega) | exact hI_v28.ug (by omega) (by omega) (by omega) (by omega) | exact hI_v28.ut (by omega) (by omega) | exact hI_v28.u0 (by omega)
            (try have := i_eq (show v30 36 0 5 = v28 36 0 5 by rw [ev30]; exact up3_j (tcne (by omega) (by omega))))
            (try have := i_eq (show v30 36 0 6 = v28 36 0 6 by rw [ev30]; exact up3_j (tcne (by omega) (by omega))))
            (try have := i_eq (show v30 36 0 7 = v28 36 0 7 by rw [ev30]; exact up3_j (tcne (by omega) (by omega))))
            have : ((v30 36 0 3).toInt = 0 ∧ (v30 36 0 4).toInt = 0) ∨ (0 < (v30 36 0 3).toInt ∧ 0 < (v30 36 0 4).toInt) := hI_v30.2.1
            refine ok_let (fun v31 ev31 => ?_)
            have hI_v31 : IM v31 := by
              rw [ev31]
              refine hI_v30.upg (by decide) ?_
              show (0 : Int) ≤ Int32.toInt ((v30 36 0 7) + 1) ∧ Int32.toInt ((v30 36 0 7) + 1) ≤ (9 : Int)
              have : (0 : Int) ≤ (v30 36 0 7).toInt ∧ (v30 36 0 7).toInt ≤ (9 : Int) := hI_v30.1 36 0 7
              have : (1 : Int32).toInt = 1 := (by decide)
              have := i_bd (v30 36 0 7)
              (first | have := sp_addx (v30 36 0 7) (1 : Int32) (by omega) | obtain ⟨k7, hk7⟩ := sp_add (v30 36 0 7) (1 : Int32))
              omega
            have := i_eq (show v31 36 0 5 = v30 36 0 5 by rw [ev31]; exact up3_j (by decide))
            have := i_eq (show v31 36 0 6 = v30 36 0 6 by rw [ev31]; exact up3_j (by decide))
            have := i_eq (show v31 36 0 7 = ((v30 36 0 7) + 1) by rw [ev31]; exact up3_s)
            have : (0 : Int) ≤ (v30 36 0 7).toInt ∧ (v30 36 0 7).toInt ≤ (9 : Int) := hI_v30.1 36 0 7
            have : (1 : Int32).toInt = 1 := (by decide)
            have := i_bd (v30 36 0 7)
            (first | have := sp_addx (v30 36 0 7) (1 : Int32) (by omega) | obtain ⟨k8, hk8⟩ := sp_add (v30 36 0 7) (1 : Int32))
            have : ((v31 36 0 3).toInt = 0 ∧ (v31 36 0 4).toInt = 0) ∨ (0 < (v31 36 0 3).toInt ∧ 0 < (v31 36 0 4).toInt) := hI_v31.2.1
            refine ok_grd _ ?_ ?_
            · skip
              have : (26 : Int32).toInt = 26 := (by decide)
              have : (3 : Int32).toInt = 3 := (by decide)
              (first | have := sp_cmulx (3 : Int32) r14 3 (by decide) (by omega) | obtain ⟨k9, hk9⟩ := sp_cmul (3 : Int32) r14 3 (by decide))
              (first | have := sp_addx (26 : Int32) ((3 : Int32) * r14) (by omega) | obtain ⟨k10, hk10⟩ := sp_add (26 : Int32) ((3 : Int32) * r14))
              have : (2 : Int32).toInt = 2 := (by decide)
              (first | have := sp_addx ((26 : Int32) + ((3 : Int32) * r14)) (2 : Int32) (by omega) | obtain ⟨k11, hk11⟩ := sp_add ((26 : Int32) + ((3 : Int32) * r14)) (2 : Int32))
              exact gr (by omega) (by omega)
            refine ok_grd _ ?_ ?_
            · skip
              have : (26 : Int32).toInt = 26 := (by decide)
              have : (3 : Int32).toInt = 3 := (by decide)
              (first | have := sp_cmulx (3 : Int32) r14 3 (by decide) (by omega) | obtain ⟨k12, hk12⟩ := sp_cmul (3 : Int32) r14 3 (by decide))
              (first | have := sp_addx (26 : Int32) ((3 : Int32) * r14) (by omega) | obtain ⟨k13, hk13⟩ := sp_add (26 : Int32) ((3 : Int32) * r14))
              have : (2 : Int32).toInt = 2 := (by decide)
              (first | have := sp_addx ((26 : Int32) + ((3 : Int32) * r14)) (2 : Int32) (by omega) | obtain ⟨k14, hk14⟩ := sp_add ((26 : Int32) + ((3 : Int32) * r14)) (2 : Int32))
              exact gr (by omega) (by omega)
            refine ok_let (fun v34 ev34 => ?_)
            have : (26 : Int32).toInt = 26 := (by decide)
            have : (3 : Int32).toInt = 3 := (by decide)
            (first | have := sp_cmulx (3 : Int32) r14 3 (by decide) (by omega) | obtain ⟨k15, hk15⟩ := sp_cmul (3 : Int32) r14 3 (by decide))
            (first | have := sp_addx (26 : Int32) ((3 : Int32) * r14) (by omega) | obtain ⟨k16, hk16⟩ := sp_add (26 : Int32) ((3 : Int32) * r14))
            have : (2 : Int32).toInt = 2 := (by decide)
            (first | have := sp_addx ((26 : Int32) + ((3 : Int32) * r14)) (2 : Int32) (by omega) | obtain ⟨k17, hk17⟩ := sp_add ((26 : Int32) + ((3 : Int32) * r14)) (2 : Int32))
            have : (26 : Int32).toInt = 26 := (by decide)
            have : (3 : Int32).toInt = 3 := (by decide)
            (first | have := sp_cmulx (3 : Int32) r14 3 (by decide) (by omega) | obtain ⟨k18, hk18⟩ := sp_cmul (3 : Int32) r14 3 (by decide))
            (first | have := sp_addx (26 : Int32) ((3 : Int32) * r14) (by omega) | obtain ⟨k19, hk19⟩ := sp_add (26 : Int32) ((3 : Int32) * r14))
            have : (2 : Int32).toInt = 2 := (by decide)
            (first | have := sp_addx ((26 : Int32) + ((3 : Int32) * r14)) (2 : Int32) (by omega) | obtain ⟨k20, hk20⟩ := sp_add ((26 : Int32) + ((3 : Int32) * r14)) (2 : Int32))
            (try have := gw_w hI_v31.1 (e := (((26 : Int32) + ((3 : Int32) * r14)) + 2)) (by omega) (by omega) (by omega))
            (try have := gw_g hI_v31.1 (e := (((26 : Int32) + ((3 : Int32) * r14)) + 2)) (by omega) (by omega) (by omega))
            have : (0 : Int32).toInt = 0 := (by decide)
            have := i_bd (v31 36 0 (Int32.toNatClampNeg (((26 : Int32) + ((3 : Int32) * r14)) + 2)))
            (first | have := sp_addx (v31 36 0 (Int32.toNatClampNeg (((26 : Int32) + ((3 : Int32) * r14)) + 2))) (0 : Int32) (by omega) | obtain ⟨k21, hk21⟩ := sp_add (v31 36 0 (Int32.toNatClampNeg (((26 : Int32) + ((3 : Int32) * r14)) + 2))) (0 : Int32))
            have hI_v34 : IM v34 := by
              rw [ev34]
              first | exact hI_v31.um (by omega) (by omega) | exact hI_v31.uw (by omega) (by omega) (by omega) (by omega) | exact hI_v31.ug (by omega) (by omega) (by omega) (by omega) | exact hI_v31.ut (by omega) (by omega) | exact hI_v31.u0 (by omega)
            (try have := i_eq (show v34 36 0 5 = v31 36 0 5 by rw [ev34]; exact up3_j (tcne (by omega) (by omega))))
            (try have := i_eq (show v34 36 0 6 = v31 36 0 6 by rw [ev34]; exact up3_j (tcne (by omega) (by omega))))
            (try have := i_eq (show v34 36 0 7 = v31 36 0 7 by rw [ev34]; exact up3_j (tcne (by omega) (by omega))))
            have : ((v34 36 0 3).toInt = 0 ∧ (v34 36 0 4).toInt = 0) ∨ (0 < (v34 36 0 3).toInt ∧ 0 < (v34 36 0 4).toInt) := hI_v34.2.1
            refine ok_some ?_
            show IM v34
            have : (0 : Int32).toInt = 0 := (by decide)
            exact hI_v34
          · skip
            have ic26 : Int32.toInt r24 = 1 := one_of hr24_lo hr24_hi c26
            have : (0 : Int32).toInt = 0 := (by decide)
            refine ok_grd _ ?_ ?_
            · skip
              have : (1 : Int32).toInt = 1 := (by decide)
              have := i_bd x20
              (first | have := sp_addx x20 (1 : Int32) (by omega) | obtain ⟨k22, hk22⟩ := sp_add x20 (1 : Int32))
              exact gr (by omega) (by omega)
            refine ok_let (fun v36 ev36 => ?_)
            have : (1 : Int32).toInt = 1 := (by decide)
            have := i_bd x20
            (first | have := sp_addx x20 (1 : Int32) (by omega) | obtain ⟨k23, hk23⟩ := sp_add x20 (1 : Int32))
            have : (1 : Int32).toInt = 1 := (by decide)
            have := i_bd r14
            (first | have := sp_addx r14 (1 : Int32) (by omega) | obtain ⟨k24, hk24⟩ := sp_add r14 (1 : Int32))
            have hI_v36 : IM v36 := by
              rw [ev36]
              first | exact hI_v22.um (by omega) (by omega) | exact hI_v22.uw (by omega) (by omega) (by omega) (by omega) | exact hI_v22.ug (by omega) (by omega) (by omega) (by omega) | exact hI_v22.ut (by omega) (by omega) | exact hI_v22.u0 (by omega)
            (try have := i_eq (show v36 36 0 5 = v22 36 0 5 by rw [ev36]; exact up3_j (tcne (by omega) (by omega))))
            (try have := i_eq (show v36 36 0 6 = v22 36 0 6 by rw [ev36]; exact up3_j (tcne (by omega) (by omega))))
            (try have := i_eq (show v36 36 0 7 = v22 36 0 7 by rw [ev36]; exact up3_j (tcne (by omega) (by omega))))
            have : ((v36 36 0 3).toInt = 0 ∧ (v36 36 0 4).toInt = 0) ∨ (0 < (v36 36 0 3).toInt ∧ 0 < (v36 36 0 4).toInt) := hI_v36.2.1
            refine ok_grd _ ?_ ?_
            · skip
              have : (2 : Int32).toInt = 2 := (by decide)
              have := i_bd x20
              (first | have := sp_addx x20 (2 : Int32) (by omega) | obtain ⟨k25, hk25⟩ := sp_add x20 (2 : Int32))
              exact gr (by omega) (by omega)
            refine ok_let (fun v38 ev38 => ?_)
            have : (2 : Int32).toInt = 2 := (by decide)
            have := i_bd x20
            (first | have := sp_addx x20 (2 : Int32) (by omega) | obtain ⟨k26, hk26⟩ := sp_add x20 (2 : Int32))
            have : (0 : Int32).toInt = 0 := (by decide)
            have hI_v38 : IM v38 := by
              rw [ev38]
              first | exact hI_v36.um (by omega) (by omega) | exact hI_v36.uw (by omega) (by omega) (by omega) (by omega) | exact hI_v36.ug (by omega) (by omega) (by omega) (by omega) | exact hI_v36.ut (by omega) (by omega) | exact hI_v36.u0 (by omega)
            (try have := i_eq (show v38 36 0 5 = v36 36 0 5 by rw [ev38]; exact up3_j (tcne (by omega) (by omega))))
            (try have := i_eq (show v38 36 0 6 = v36 36 0 6 by rw [ev38]; exact up3_j (tcne (by omega) (by omega))))
            (try have := i_eq (show v38 36 0 7 = v36 36 0 7 by rw [ev38]; exact up3_j (tcne (by omega) (by omega))))
            have : ((v38 36 0 3).toInt = 0 ∧ (v38 36 0 4).toInt = 0) ∨ (0 < (v38 36 0 3).toInt ∧ 0 < (v38 36 0 4).toInt) := hI_v38.2.1
            refine ok_let (fun v39 ev39 => ?_)
            have hI_v39 : IM v39 := by
              rw [ev39]
              refine hI_v38.upg (by decide) ?_
              show (0 : Int) ≤ Int32.toInt ((v38 36 0 7) + 1) ∧ Int32.toInt ((v38 36 0 7) + 1) ≤ (9 : Int)
              have : (0 : Int) ≤ (v38 36 0 7).toInt ∧ (v38 36 0 7).toInt ≤ (9 : Int) := hI_v38.1 36 0 7
              have : (1 : Int32).toInt = 1 := (by decide)
              have := i_bd (v38 36 0 7)
              (first | have := sp_addx (v38 36 0 7) (1 : Int32) (by omega) | obtain ⟨k27, hk27⟩ := sp_add (v38 36 0 7) (1 : Int32))
              omega
            have := i_eq (show v39 36 0 5 = v38 36 0 5 by rw [ev39]; exact up3_j (by decide))
            have := i_eq (show v39 36 0 6 = v38 36 0 6 by rw [ev39]; exact up3_j (by decide))
            have := i_eq (show v39 36 0 7 = ((v38 36 0 7) + 1) by rw [ev39]; exact up3_s)
            have : (0 : Int) ≤ (v38 36 0 7).toInt ∧ (v38 36 0 7).toInt ≤ (9 : Int) := hI_v38.1 36 0 7
            have : (1 : Int32).toInt = 1 := (by decide)
            have := i_bd (v38 36 0 7)
            (first | have := sp_addx (v38 36 0 7) (1 : Int32) (by omega) | obtain ⟨k28, hk28⟩ := sp_add (v38 36 0 7) (1 : Int32))
            have : ((v39 36 0 3).toInt = 0 ∧ (v39 36 0 4).toInt = 0) ∨ (0 < (v39 36 0 3).toInt ∧ 0 < (v39 36 0 4).toInt) := hI_v39.2.1
            refine ok_grd _ ?_ ?_
            · skip
              have : (26 : Int32).toInt = 26 := (by decide)
              have : (3 : Int32).toInt = 3 := (by decide)
              (first | have := sp_cmulx (3 : Int32) r14 3 (by decide) (by omega) | obtain ⟨k29, hk29⟩ := sp_cmul (3 : Int32) r14 3 (by decide))
              (first | have := sp_addx (26 : Int32) ((3 : Int32) * r14) (by omega) | obtain ⟨k30, hk30⟩ := sp_add (26 : Int32) ((3 : Int32) * r14))
              have : (2 : Int32).toInt = 2 := (by decide)
              (first | have := sp_addx ((26 : Int32) + ((3 : Int32) * r14)) (2 : Int32) (by omega) | obtain ⟨k31, hk31⟩ := sp_add ((26 : Int32) + ((3 : Int32) * r14)) (2 : Int32))
              exact gr (by omega) (by omega)
            refine ok_grd _ ?_ ?_
            · skip
              have : (26 : Int32).toInt = 26 := (by decide)
              have : (3 : Int32).toInt = 3 := (by decide)
              (first | have := sp_cmulx (3 : Int32) r14 3 (by decide) (by omega) | obtain ⟨k32, hk32⟩ := sp_cmul (3 : Int32) r14 3 (by decide))
              (first | have := sp_addx (26 : Int32) ((3 : Int32) * r14) (by omega) | obtain ⟨k33, hk33⟩ := sp_add (26 : Int32) ((3 : Int32) * r14))
              have : (2 : Int32).toInt = 2 := (by decide)
              (first | have := sp_addx ((26 : Int32) + ((3 : Int32) * r14)) (2 : Int32) (by omega) | obtain ⟨k34, hk34⟩ := sp_add ((26 : Int32) + ((3 : Int32) * r14)) (2 : Int32))
              exact gr (by omega) (by omega)
            refine ok_let (fun v42 ev42 => ?_)
            have : (26 : Int32).toInt = 26 := (by decide)
            have : (3 : Int32).toInt = 3 := (by decide)
            (first | have := sp_cmulx (3 : Int32) r14 3 (by decide) (by omega) | obtain ⟨k35, hk35⟩ := sp_cmul (3 : Int32) r14 3 (by decide))
            (first | have := sp_addx (26 : Int32) ((3 : Int32) * r14) (by omega) | obtain ⟨k36, hk36⟩ := sp_add (26 : Int32) ((3 : Int32) * r14))
            have : (2 : Int32).toInt = 2 := (by decide)
            (first | have := sp_addx ((26 : Int32) + ((3 : Int32) * r14)) (2 : Int32) (by omega) | obtain ⟨k37, hk37⟩ := sp_add ((26 : Int32) + ((3 : Int32) * r14)) (2 : Int32))
            have : (26 : Int32).toInt = 26 := (by decide)
            have : (3 : Int32).toInt = 3 := (by decide)
            (first | have := sp_cmulx (3 : Int32) r14 3 (by decide) (by omega) | obtain ⟨k38, hk38⟩ := sp_cmul (3 : Int32) r14 3 (by decide))
            (first | have := sp_addx (26 : Int32) ((3 : Int32) * r14) (by omega) | obtain ⟨k39, hk39⟩ := sp_add (26 : Int32) ((3 : Int32) * r14))
            have : (2 : Int32).toInt = 2 := (by decide)
            (first | have := sp_addx ((26 : Int32) + ((3 : Int32) * r14)) (2 : Int32) (by omega) | obtain ⟨k40, hk40⟩ := sp_add ((26 : Int32) + ((3 : Int32) * r14)) (2 : Int32))
            (try have := gw_w hI_v39.1 (e := (((26 : Int32) + ((3 : Int32) * r14)) + 2)) (by omega) (by omega) (by omega))
            (try have := gw_g hI_v39.1 (e := (((26 : Int32) + ((3 : Int32) * r14)) + 2)) (by omega) (by omega) (by omega))
            have : (0 : Int32).toInt = 0 := (by decide)
            have := i_bd (v39 36 0 (Int32.toNatClampNeg (((26 : Int32) + ((3 : Int32) * r14)) + 2)))
            (first | have := sp_addx (v39 36 0 (Int32.toNatClampNeg (((26 : Int32) + ((3 : Int32) * r14)) + 2))) (0 : Int32) (by omega) | obtain ⟨k41, hk41⟩ := sp_add (v39 36 0 (Int32.toNatClampNeg (((26 : Int32) + ((3 : Int32) * r14)) + 2))) (0 : Int32))
            have hI_v42 : IM v42 := by
              rw [ev42]
              first | exact hI_v39.um (by omega) (by omega) | exact hI_v39.uw (by omega) (by omega) (by omega) (by omega) | exact hI_v39.ug (by omega) (by omega) (by omega) (by omega) | exact hI_v39.ut (by omega) (by omega) | exact hI_v39.u0 (by omega)
            (try have := i_eq (show v42 36 0 5 = v39 36 0 5 by rw [ev42]; exact up3_j (tcne (by omega) (by omega))))
            (try have := i_eq (show v42 36 0 6 = v39 36 0 6 by rw [ev42]; exact up3_j (tcne (by omega) (by omega))))
            (try have := i_eq (show v42 36 0 7 = v39 36 0 7 by rw [ev42]; exact up3_j (tcne (by omega) (by omega))))
            have : ((v42 36 0 3).toInt = 0 ∧ (v42 36 0 4).toInt = 0) ∨ (0 < (v42 36 0 3).toInt ∧ 0 < (v42 36 0 4).toInt) := hI_v42.2.1
            refine ok_some ?_
            show IM v42
            have : (0 : Int32).toInt = 0 := (by decide)
            exact hI_v42
        · skip
          have ic19 : Int32.toInt r17 = 1 := one_of hr17_lo hr17_hi c19
          have : (0 : Int32).toInt = 0 := (by decide)
          refine ok_let (fun x43 ex43 => ?_)
          have : (38 : Int32).toInt = 38 := (by decide)
          have : (3 : Int32).toInt = 3 := (by decide)
          have : (0 : Int) ≤ (v12 36 0 7).toInt ∧ (v12 36 0 7).toInt ≤ (9 : Int) := hI_v12.1 36 0 7
          (first | have := sp_cmulx (3 : Int32) (v12 36 0 7) 3 (by decide) (by omega) | obtain ⟨k42, hk42⟩ := sp_cmul (3 : Int32) (v12 36 0 7) 3 (by decide))
          (first | have := sp_addx (38 : Int32) ((3 : Int32) * (v12 36 0 7)) (by omega) | obtain ⟨k43, hk43⟩ := sp_add (38 : Int32) ((3 : Int32) * (v12 36 0 7)))
          have := i_eq ex43
          refine ok_grd _ ?_ ?_
          · skip
            exact gr (by omega) (by omega)
          refine ok_let (fun v45 ev45 => ?_)
          have hI_v45 : IM v45 := by
            rw [ev45]
            first | exact hI_v12.um (by omega) (by omega) | exact hI_v12.uw (by omega) (by omega) (by omega) (by omega) | exact hI_v12.ug (by omega) (by omega) (by omega) (by omega) | exact hI_v12.ut (by omega) (by omega) | exact hI_v12.u0 (by omega)
          (try have := i_eq (show v45 36 0 5 = v12 36 0 5 by rw [ev45]; exact up3_j (tcne (by omega) (by omega))))
          (try have := i_eq (show v45 36 0 6 = v12 36 0 6 by rw [ev45]; exact up3_j (tcne (by omega) (by omega))))
          (try have := i_eq (show v45 36 0 7 = v12 36 0 7 by rw [ev45]; exact up3_j (tcne (by omega) (by omega))))
          have : ((v45 36 0 3).toInt = 0 ∧ (v45 36 0 4).toInt = 0) ∨ (0 < (v45 36 0 3).toInt ∧ 0 < (v45 36 0 4).toInt) := hI_v45.2.1
          refine ok_bind (k_X8_has v45 hI_v45 (v45 36 0 6) r14 ) (fun r47 hr47 => ?_)
          replace hr47 : (0 : Int) ≤ Int32.toInt r47 ∧ Int32.toInt r47 ≤ (1 : Int) := hr47
          obtain ⟨hr47_lo, hr47_hi⟩ := hr47
          refine ok_ite _ (fun c49 => ?_) (fun c49 => ?_)
          · skip
            have ic49 := i_eq c49
            have : (0 : Int32).toInt = 0 := (by decide)
            refine ok_grd _ ?_ ?_
            · skip
              have : (1 : Int32).toInt = 1 := (by decide)
              have := i_bd x43
              (first | have := sp_addx x43 (1 : Int32) (by omega) | obtain ⟨k44, hk44⟩ := sp_add x43 (1 : Int32))
              exact gr (by omega) (by omega)
            refine ok_let (fun v51 ev51 => ?_)
            have : (1 : Int32).toInt = 1 := (by decide)
            have := i_bd x43
            (first | have := sp_addx x43 (1 : Int32) (by omega) | obtain ⟨k45, hk45⟩ := sp_add x43 (1 : Int32))
            have : (0 : Int32).toInt = 0 := (by decide)
            have hI_v51 : IM v51 := by
              rw [ev51]
              first | exact hI_v45.um (by omega) (by omega) | exact hI_v45.uw (by omega) (by omega) (by omega) (by omega) | exact hI_v45.ug (by omega) (by omega) (by omega) (by omega) | exact hI_v45.ut (by omega) (by omega) | exact hI_v45.u0 (by omega)
            (try have := i_eq (show v51 36 0 5 = v45 36 0 5 by rw [ev51]; exact up3_j (tcne (by omega) (by omega))))
            (try have := i_eq (show v51 36 0 6 = v45 36 0 6 by rw [ev51]; exact up3_j (tcne (by omega) (by omega))))
            (try have := i_eq (show v51 36 0 7 = v45 36 0 7 by rw [ev51]; exact up3_j (tcne (by omega) (by omega))))
            have : ((v51 36 0 3).toInt = 0 ∧ (v51 36 0 4).toInt = 0) ∨ (0 < (v51 36 0 3).toInt ∧ 0 < (v51 36 0 4).toInt) := hI_v51.2.1
            refine ok_grd _ ?_ ?_
            · skip
              have : (2 : Int32).toInt = 2 := (by decide)
              have := i_bd x43
              (first | have := sp_addx x43 (2 : Int32) (by omega) | obtain ⟨k46, hk46⟩ := sp_add x43 (2 : Int32))
              exact gr (by omega) (by omega)
            refine ok_let (fun v53 ev53 => ?_)
            have : (2 : Int32).toInt = 2 := (by decide)
            have := i_bd x43
            (first | have := sp_addx x43 (2 : Int32) (by omega) | obtain ⟨k47, hk47⟩ := sp_add x43 (2 : Int32))
            have : (1 : Int32).toInt = 1 := (by decide)
            have hI_v53 : IM v53 := by
              rw [ev53]
              first | exact hI_v51.um (by omega) (by omega) | exact hI_v51.uw (by omega) (by omega) (by omega) (by omega) | exact hI_v51.ug (by omega) (by omega) (by omega) (by omega) | exact hI_v51.ut (by omega) (by omega) | exact hI_v51.u0 (by omega)
            (try have := i_eq (show v53 36 0 5 = v51 36 0 5 by rw [ev53]; exact up3_j (tcne (by omega) (by omega))))
            (try have := i_eq (show v53 36 0 6 = v51 36 0 6 by rw [ev53]; exact up3_j (tcne (by omega) (by omega))))
            (try have := i_eq (show v53 36 0 7 = v51 36 0 7 by rw [ev53]; exact up3_j (tcne (by omega) (by omega))))
            have : ((v53 36 0 3).toInt = 0 ∧ (v53 36 0 4).toInt = 0) ∨ (0 < (v53 36 0 3).toInt ∧ 0 < (v53 36 0 4).toInt) := hI_v53.2.1
            refine ok_let (fun v54 ev54 => ?_)
            have hI_v54 : IM v54 := by
              rw [ev54]
              refine hI_v53.upg (by decide) ?_
              show (0 : Int) ≤ Int32.toInt ((v53 36 0 7) + 1) ∧ Int32.toInt ((v53 36 0 7) + 1) ≤ (9 : Int)
              have : (0 : Int) ≤ (v53 36 0 7).toInt ∧ (v53 36 0 7).toInt ≤ (9 : Int) := hI_v53.1 36 0 7
              have : (1 : Int32).toInt = 1 := (by decide)
              have := i_bd (v53 36 0 7)
              (first | have := sp_addx (v53 36 0 7) (1 : Int32) (by omega) | obtain ⟨k48, hk48⟩ := sp_add (v53 36 0 7) (1 : Int32))
              omega
            have := i_eq (show v54 36 0 5 = v53 36 0 5 by rw [ev54]; exact up3_j (by decide))
            have := i_eq (show v54 36 0 6 = v53 36 0 6 by rw [ev54]; exact up3_j (by decide))
            have := i_eq (show v54 36 0 7 = ((v53 36 0 7) + 1) by rw [ev54]; exact up3_s)
            have : (0 : Int) ≤ (v53 36 0 7).toInt ∧ (v53 36 0 7).toInt ≤ (9 : Int) := hI_v53.1 36 0 7
            have : (1 : Int32).toInt = 1 := (by decide)
            have := i_bd (v53 36 0 7)
            (first | have := sp_addx (v53 36 0 7) (1 : Int32) (by omega) | obtain ⟨k49, hk49⟩ := sp_add (v53 36 0 7) (1 : Int32))
            have : ((v54 36 0 3).toInt = 0 ∧ (v54 36 0 4).toInt = 0) ∨ (0 < (v54 36 0 3).toInt ∧ 0 < (v54 36 0 4).toInt) := hI_v54.2.1
            refine ok_grd _ ?_ ?_
            · skip
              have : (26 : Int32).toInt = 26 := (by decide)
              have : (3 : Int32).toInt = 3 := (by decide)
              (first | have := sp_cmulx (3 : Int32) r14 3 (by decide) (by omega) | obtain ⟨k50, hk50⟩ := sp_cmul (3 : Int32) r14 3 (by decide))
              (first | have := sp_addx (26 : Int32) ((3 : Int32) * r14) (by omega) | obtain ⟨k51, hk51⟩ := sp_add (26 : Int32) ((3 : Int32) * r14))
              have : (2 : Int32).toInt = 2 := (by decide)
              (first | have := sp_addx ((26 : Int32) + ((3 : Int32) * r14)) (2 : Int32) (by omega) | obtain ⟨k52, hk52⟩ := sp_add ((26 : Int32) + ((3 : Int32) * r14)) (2 : Int32))
              exact gr (by omega) (by omega)
            refine ok_grd _ ?_ ?_
            · skip
              have : (26 : Int32).toInt = 26 := (by decide)
              have : (3 : Int32).toInt = 3 := (by decide)
              (first | have := sp_cmulx (3 : Int32) r14 3 (by decide) (by omega) | obtain ⟨k53, hk53⟩ := sp_cmul (3 : Int32) r14 3 (by decide))
              (first | have := sp_addx (26 : Int32) ((3 : Int32) * r14) (by omega) | obtain ⟨k54, hk54⟩ := sp_add (26 : Int32) ((3 : Int32) * r14))
              have : (2 : Int32).toInt = 2 := (by decide)
              (first | have := sp_addx ((26 : Int32) + ((3 : Int32) * r14)) (2 : Int32) (by omega) | obtain ⟨k55, hk55⟩ := sp_add ((26 : Int32) + ((3 : Int32) * r14)) (2 : Int32))
              exact gr (by omega) (by omega)
            refine ok_let (fun v57 ev57 => ?_)
            have : (26 : Int32).toInt = 26 := (by decide)
            have : (3 : Int32).toInt = 3 := (by decide)
            (first | have := sp_cmulx (3 : Int32) r14 3 (by decide) (by omega) | obtain ⟨k56, hk56⟩ := sp_cmul (3 : Int32) r14 3 (by decide))
            (first | have := sp_addx (26 : Int32) ((3 : Int32) * r14) (by omega) | obtain ⟨k57, hk57⟩ := sp_add (26 : Int32) ((3 : Int32) * r14))
            have : (2 : Int32).toInt = 2 := (by decide)
            (first | have := sp_addx ((26 : Int32) + ((3 : Int32) * r14)) (2 : Int32) (by omega) | obtain ⟨k58, hk58⟩ := sp_add ((26 : Int32) + ((3 : Int32) * r14)) (2 : Int32))
            have : (26 : Int32).toInt = 26 := (by decide)
            have : (3 : Int32).toInt = 3 := (by decide)
            (first | have := sp_cmulx (3 : Int32) r14 3 (by decide) (by omega) | obtain ⟨k59, hk59⟩ := sp_cmul (3 : Int32) r14 3 (by decide))
            (first | have := sp_addx (26 : Int32) ((3 : Int32) * r14) (by omega) | obtain ⟨k60, hk60⟩ := sp_add (26 : Int32) ((3 : Int32) * r14))
            have : (2 : Int32).toInt = 2 := (by decide)
            (first | have := sp_addx ((26 : Int32) + ((3 : Int32) * r14)) (2 : Int32) (by omega) | obtain ⟨k61, hk61⟩ := sp_add ((26 : Int32) + ((3 : Int32) * r14)) (2 : Int32))
            (try have := gw_w hI_v54.1 (e := (((26 : Int32) + ((3 : Int32) * r14)) + 2)) (by omega) (by omega) (by omega))
            (try have := gw_g hI_v54.1 (e := (((26 : Int32) + ((3 : Int32) * r14)) + 2)) (by omega) (by omega) (by omega))
            have : (1 : Int32).toInt = 1 := (by decide)
            have := i_bd (v54 36 0 (Int32.toNatClampNeg (((26 : Int32) + ((3 : Int32) * r14)) + 2)))
            (first | have := sp_addx (v54 36 0 (Int32.toNatClampNeg (((26 : Int32) + ((3 : Int32) * r14)) + 2))) (1 : Int32) (by omega) | obtain ⟨k62, hk62⟩ := sp_add (v54 36 0 (Int32.toNatClampNeg (((26 : Int32) + ((3 : Int32) * r14)) + 2))) (1 : Int32))
            have hI_v57 : IM v57 := by
              rw [ev57]
              first | exact hI_v54.um (by omega) (by omega) | exact hI_v54.uw (by omega) (by omega) (by omega) (by omega) | exact hI_v54.ug (by omega) (by omega) (by omega) (by omega) | exact hI_v54.ut (by omega) (by omega) | exact hI_v54.u0 (by omega)
            (try have := i_eq (show v57 36 0 5 = v54 36 0 5 by rw [ev57]; exact up3_j (tcne (by omega) (by omega))))
            (try have := i_eq (show v57 36 0 6 = v54 36 0 6 by rw [ev57]; exact up3_j (tcne (by omega) (by omega))))
            (try have := i_eq (show v57 36 0 7 = v54 36 0 7 by rw [ev57]; exact up3_j (tcne (by omega) (by omega))))
            have : ((v57 36 0 3).toInt = 0 ∧ (v57 36 0 4).toInt = 0) ∨ (0 < (v57 36 0 3).toInt ∧ 0 < (v57 36 0 4).toInt) := hI_v57.2.1
            refine ok_some ?_
            show IM v57
            have : (1 : Int32).toInt = 1 := (by decide)
            exact hI_v57
          · skip
            have ic49 : Int32.toInt r47 = 1 := one_of hr47_lo hr47_hi c49
            have : (0 : Int32).toInt = 0 := (by decide)
            refine ok_grd _ ?_ ?_
            · skip
              have : (1 : Int32).toInt = 1 := (by decide)
              have := i_bd x43
              (first | have := sp_addx x43 (1 : Int32) (by omega) | obtain ⟨k63, hk63⟩ := sp_add x43 (1 : Int32))
              exact gr (by omega) (by omega)
            refine ok_let (fun v59 ev59 => ?_)
            have : (1 : Int32).toInt = 1 := (by decide)
            have := i_bd x43
            (first | have := sp_addx x43 (1 : Int32) (by omega) | obtain ⟨k64, hk64⟩ := sp_add x43 (1 : Int32))
            have : (1 : Int32).toInt = 1 := (by decide)
            have := i_bd r14
            (first | have := sp_addx r14 (1 : Int32) (by omega) | obtain ⟨k65, hk65⟩ := sp_add r14 (1 : Int32))
            have hI_v59 : IM v59 := by
              rw [ev59]
              first | exact hI_v45.um (by omega) (by omega) | exact hI_v45.uw (by omega) (by omega) (by omega) (by omega) | exact hI_v45.ug (by omega) (by omega) (by omega) (by omega) | exact hI_v45.ut (by omega) (by omega) | exact hI_v45.u0 (by omega)
            (try have := i_eq (show v59 36 0 5 = v45 36 0 5 by rw [ev59]; exact up3_j (tcne (by omega) (by omega))))
            (try have := i_eq (show v59 36 0 6 = v45 36 0 6 by rw [ev59]; exact up3_j (tcne (by omega) (by omega))))
            (try have := i_eq (show v59 36 0 7 = v45 36 0 7 by rw [ev59]; exact up3_j (tcne (by omega) (by omega))))
            have : ((v59 36 0 3).toInt = 0 ∧ (v59 36 0 4).toInt = 0) ∨ (0 < (v59 36 0 3).toInt ∧ 0 < (v59 36 0 4).toInt) := hI_v59.2.1
            refine ok_grd _ ?_ ?_
            · skip
              have : (2 : Int32).toInt = 2 := (by decide)
              have := i_bd x43
              (first | have := sp_addx x43 (2 : Int32) (by omega) | obtain ⟨k66, hk66⟩ := sp_add x43 (2 : Int32))
              exact gr (by omega) (by omega)
            refine ok_let (fun v61 ev61 => ?_)
            have : (2 : Int32).toInt = 2 := (by decide)
            have := i_bd x43
            (first | have := sp_addx x43 (2 : Int32) (by omega) | obtain ⟨k67, hk67⟩ := sp_add x43 (2 : Int32))
            have : (1 : Int32).toInt = 1 := (by decide)
            have hI_v61 : IM v61 := by
              rw [ev61]
              first | exact hI_v59.um (by omega) (by omega) | exact hI_v59.uw (by omega) (by omega) (by omega) (by omega) | exact hI_v59.ug (by omega) (by omega) (by omega) (by omega) | exact hI_v59.ut (by omega) (by omega) | exact hI_v59.u0 (by omega)
            (try have := i_eq (show v61 36 0 5 = v59 36 0 5 by rw [ev61]; exact up3_j (tcne (by omega) (by omega))))
            (try have := i_eq (show v61 36 0 6 = v59 36 0 6 by rw [ev61]; exact up3_j (tcne (by omega) (by omega))))
            (try have := i_eq (show v61 36 0 7 = v59 36 0 7 by rw [ev61]; exact up3_j (tcne (by omega) (by omega))))
            have : ((v61 36 0 3).toInt = 0 ∧ (v61 36 0 4).toInt = 0) ∨ (0 < (v61 36 0 3).toInt ∧ 0 < (v61 36 0 4).toInt) := hI_v61.2.1
            refine ok_let (fun v62 ev62 => ?_)
            have hI_v62 : IM v62 := by
              rw [ev62]
              refine hI_v61.upg (by decide) ?_
              show (0 : Int) ≤ Int32.toInt ((v61 36 0 7) + 1) ∧ Int32.toInt ((v61 36 0 7) + 1) ≤ (9 : Int)
              have : (0 : Int) ≤ (v61 36 0 7).toInt ∧ (v61 36 0 7).toInt ≤ (9 : Int) := hI_v61.1 36 0 7
              have : (1 : Int32).toInt = 1 := (by decide)
              have := i_bd (v61 36 0 7)
              (first | have := sp_addx (v61 36 0 7) (1 : Int32) (by omega) | obtain ⟨k68, hk68⟩ := sp_add (v61 36 0 7) (1 : Int32))
              omega
            have := i_eq (show v62 36 0 5 = v61 36 0 5 by rw [ev62]; exact up3_j (by decide))
            have := i_eq (show v62 36 0 6 = v61 36 0 6 by rw [ev62]; exact up3_j (by decide))
            have := i_eq (show v62 36 0 7 = ((v61 36 0 7) + 1) by rw [ev62]; exact up3_s)
            have : (0 : Int) ≤ (v61 36 0 7).toInt ∧ (v61 36 0 7).toInt ≤ (9 : Int) := hI_v61.1 36 0 7
            have : (1 : Int32).toInt = 1 := (by decide)
            have := i_bd (v61 36 0 7)
            (first | have := sp_addx (v61 36 0 7) (1 : Int32) (by omega) | obtain ⟨k69, hk69⟩ := sp_add (v61 36 0 7) (1 : Int32))
            have : ((v62 36 0 3).toInt = 0 ∧ (v62 36 0 4).toInt = 0) ∨ (0 < (v62 36 0 3).toInt ∧ 0 < (v62 36 0 4).toInt) := hI_v62.2.1
            refine ok_grd _ ?_ ?_
            · skip
              have : (26 : Int32).toInt = 26 := (by decide)
              have : (3 : Int32).toInt = 3 := (by decide)
              (first | have := sp_cmulx (3 : Int32) r14 3 (by decide) (by omega) | obtain ⟨k70, hk70⟩ := sp_cmul (3 : Int32) r14 3 (by decide))
              (first | have := sp_addx (26 : Int32) ((3 : Int32) * r14) (by omega) | obtain ⟨k71, hk71⟩ := sp_add (26 : Int32) ((3 : Int32) * r14))
              have : (2 : Int32).toInt = 2 := (by decide)
              (first | have := sp_addx ((26 : Int32) + ((3 : Int32) * r14)) (2 : Int32) (by omega) | obtain ⟨k72, hk72⟩ := sp_add ((26 : Int32) + ((3 : Int32) * r14)) (2 : Int32))
              exact gr (by omega) (by omega)
            refine ok_grd _ ?_ ?_
            · skip
              have : (26 : Int32).toInt = 26 := (by decide)
              have : (3 : Int32).toInt = 3 := (by decide)
              (first | have := sp_cmulx (3 : Int32) r14 3 (by decide) (by omega) | obtain ⟨k73, hk73⟩ := sp_cmul (3 : Int32) r14 3 (by decide))
              (first | have := sp_addx (26 : Int32) ((3 : Int32) * r14) (by omega) | obtain ⟨k74, hk74⟩ := sp_add (26 : Int32) ((3 : Int32) * r14))
              have : (2 : Int32).toInt = 2 := (by decide)
              (first | have := sp_addx ((26 : Int32) + ((3 : Int32) * r14)) (2 : Int32) (by omega) | obtain ⟨k75, hk75⟩ := sp_add ((26 : Int32) + ((3 : Int32) * r14)) (2 : Int32))
              exact gr (by omega) (by omega)
            refine ok_let (fun v65 ev65 => ?_)
            have : (26 : Int32).toInt = 26 := (by decide)
            have : (3 : Int32).toInt = 3 := (by decide)
            (first | have := sp_cmulx (3 : Int32) r14 3 (by decide) (by omega) | obtain ⟨k76, hk76⟩ := sp_cmul (3 : Int32) r14 3 (by decide))
            (first | have := sp_addx (26 : Int32) ((3 : Int32) * r14) (by omega) | obtain ⟨k77, hk77⟩ := sp_add (26 : Int32) ((3 : Int32) * r14))
            have : (2 : Int32).toInt = 2 := (by decide)
            (first | have := sp_addx ((26 : Int32) + ((3 : Int32) * r14)) (2 : Int32) (by omega) | obtain ⟨k78, hk78⟩ := sp_add ((26 : Int32) + ((3 : Int32) * r14)) (2 : Int32))
            have : (26 : Int32).toInt = 26 := (by decide)
            have : (3 : Int32).toInt = 3 := (by decide)
            (first | have := sp_cmulx (3 : Int32) r14 3 (by decide) (by omega) | obtain ⟨k79, hk79⟩ := sp_cmul (3 : Int32) r14 3 (by decide))
            (first | have := sp_addx (26 : Int32) ((3 : Int32) * r14) (by omega) | obtain ⟨k80, hk80⟩ := sp_add (26 : Int32) ((3 : Int32) * r14))
            have : (2 : Int32).toInt = 2 := (by decide)
            (first | have := sp_addx ((26 : Int32) + ((3 : Int32) * r14)) (2 : Int32) (by omega) | obtain ⟨k81, hk81⟩ := sp_add ((26 : Int32) + ((3 : Int32) * r14)) (2 : Int32))
            (try have := gw_w hI_v62.1 (e := (((26 : Int32) + ((3 : Int32) * r14)) + 2)) (by omega) (by omega) (by omega))
            (try have := gw_g hI_v62.1 (e := (((26 : Int32) + ((3 : Int32) * r14)) + 2)) (by omega) (by omega) (by omega))
            have : (1 : Int32).toInt = 1 := (by decide)
            have := i_bd (v62 36 0 (Int32.toNatClampNeg (((26 : Int32) + ((3 : Int32) * r14)) + 2)))
            (first | have := sp_addx (v62 36 0 (Int32.toNatClampNeg (((26 : Int32) + ((3 : Int32) * r14)) + 2))) (1 : Int32) (by omega) | obtain ⟨k82, hk82⟩ := sp_add (v62 36 0 (Int32.toNatClampNeg (((26 : Int32) + ((3 : Int32) * r14)) + 2))) (1 : Int32))
            have hI_v65 : IM v65 := by
              rw [ev65]
              first | exact hI_v62.um (by omega) (by omega) | exact hI_v62.uw (by omega) (by omega) (by omega) (by omega) | exact hI_v62.ug (by omega) (by omega) (by omega) (by omega) | exact hI_v62.ut (by omega) (by omega) | exact hI_v62.u0 (by omega)
            (try have := i_eq (show v65 36 0 5 = v62 36 0 5 by rw [ev65]; exact up3_j (tcne (by omega) (by omega))))
            (try have := i_eq (show v65 36 0 6 = v62 36 0 6 by rw [ev65]; exact up3_j (tcne (by omega) (by omega))))
            (try have := i_eq (show v65 36 0 7 = v62 36 0 7 by rw [ev65]; exact up3_j (tcne (by omega) (by omega))))
            have : ((v65 36 0 3).toInt = 0 ∧ (v65 36 0 4).toInt = 0) ∨ (0 < (v65 36 0 3).toInt ∧ 0 < (v65 36 0 4).toInt) := hI_v65.2.1
            refine ok_some ?_
            show IM v65
            have : (1 : Int32).toInt = 1 := (by decide)
            exact hI_v65
set_option maxHeartbeats 4000000 in
theorem k_X8_start (v : Mm) (hI_v : IM v) (a1 : Int32) : ok (g_X8_start v a1) (fun z => IM z.2) := by
  unfold g_X8_start
  try rw [tc_0]
  refine ok_bind (k_X8_isGate v hI_v  ) (fun r2 hr2 => ?_)
  replace hr2 : (0 : Int) ≤ Int32.toInt r2 ∧ Int32.toInt r2 ≤ (1 : Int) ∧ ((Int32.toInt r2 = 0 ∧ Int32.toInt (v 36 0 3) = 0) ∨ 0 < Int32.toInt (v 36 0 3)) := hr2
  obtain ⟨hr2_lo, hr2_hi, hr2_p0⟩ := hr2
  have : (0 : Int) ≤ (v 36 0 3).toInt ∧ (v 36 0 3).toInt ≤ (6 : Int) := hI_v.1 36 0 3
  refine ok_ite _ (fun c4 => ?_) (fun c4 => ?_)
  · skip
    have ic4 := i_eq c4
    have : (0 : Int32).toInt = 0 := (by decide)
    refine ok_some ?_
    show IM v
    have : (-1000002 : Int32).toInt = -1000002 := (by decide)
    exact hI_v
  · skip
    have ic4 : Int32.toInt r2 = 1 := one_of hr2_lo hr2_hi c4
    have : (0 : Int32).toInt = 0 := (by decide)
    refine ok_bind (k_X8_in v hI_v a1 0 9 ) (fun r6 hr6 => ?_)
    replace hr6 : (0 : Int) ≤ Int32.toInt r6 ∧ Int32.toInt r6 ≤ (1 : Int) ∧ (Int32.toInt r6 = 0 ∨ (Int32.toInt 0 ≤ Int32.toInt a1 ∧ Int32.toInt a1 ≤ Int32.toInt 9)) := hr6
    obtain ⟨hr6_lo, hr6_hi, hr6_p0⟩ := hr6
    have : (0 : Int32).toInt = 0 := (by decide)
    have : (9 : Int32).toInt = 9 := (by decide)
    refine ok_ite _ (fun c8 => ?_) (fun c8 => ?_)
    · skip
      have ic8 := i_eq c8
      try clear hr6_p0
      have : (0 : Int32).toInt = 0 := (by decide)
      refine ok_some ?_
      show IM v
      have : (-1000001 : Int32).toInt = -1000001 := (by decide)
      exact hI_v
    · skip
      have ic8 : Int32.toInt r6 = 1 := one_of hr6_lo hr6_hi c8
      try replace hr6_p0 : (Int32.toInt 0 ≤ Int32.toInt a1 ∧ Int32.toInt a1 ≤ Int32.toInt 9) := orr hr6_p0 ic8
      have : (0 : Int32).toInt = 0 := (by decide)
      refine ok_bind (k_X8_notes v hI_v  ) (fun v11 hr10 => ?_)
      replace hr10 : IM v11 ∧ (Int32.toInt (v11 36 0 0) = Int32.toInt (v 36 0 0)) ∧ (Int32.toInt (v11 36 0 1) = Int32.toInt (v 36 0 1)) ∧ (Int32.toInt (v11 36 0 2) = Int32.toInt (v 36 0 2)) ∧ (Int32.toInt (v11 36 0 3) = Int32.toInt (v 36 0 3)) ∧ (Int32.toInt (v11 36 0 4) = Int32.toInt (v 36 0 4)) ∧ (Int32.toInt (v11 36 0 5) = Int32.toInt (v 36 0 5)) ∧ (Int32.toInt (v11 36 0 6) = Int32.toInt (v 36 0 6)) ∧ (Int32.toInt (v11 36 0 7) = Int32.toInt (v 36 0 7)) := hr10
      obtain ⟨hI_v11, hr10_p0, hr10_p1, hr10_p2, hr10_p3, hr10_p4, hr10_p5, hr10_p6, hr10_p7⟩ := hr10
      have : (0 : Int) ≤ (v 36 0 0).toInt ∧ (v 36 0 0).toInt ≤ (9 : Int) := hI_v.1 36 0 0
      have : (0 : Int) ≤ (v 36 0 1).toInt ∧ (v 36 0 1).toInt ≤ (9 : Int) := hI_v.1 36 0 1
      have : (0 : Int) ≤ (v 36 0 2).toInt ∧ (v 36 0 2).toInt ≤ (6 : Int) := hI_v.1 36 0 2
      have : (0 : Int) ≤ (v 36 0 3).toInt ∧ (v 36 0 3).toInt ≤ (6 : Int) := hI_v.1 36 0 3
      have : (0 : Int) ≤ (v 36 0 4).toInt ∧ (v 36 0 4).toInt ≤ (4 : Int) := hI_v.1 36 0 4
      have : (0 : Int) ≤ (v 36 0 5).toInt ∧ (v 36 0 5).toInt ≤ (999 : Int) := hI_v.1 36 0 5
      have : (0 : Int) ≤ (v 36 0 6).toInt ∧ (v 36 0 6).toInt ≤ (15 : Int) := hI_v.1 36 0 6
      have : (0 : Int) ≤ (v 36 0 7).toInt ∧ (v 36 0 7).toInt ≤ (9 : Int) := hI_v.1 36 0 7
      refine ok_let (fun v12 ev12 => ?_)
      have hI_v12 : IM v12 := by
        rw [ev12]
        refine hI_v11.upg (by decide) ?_
        show (0 : Int) ≤ Int32.toInt a1 ∧ Int32.toInt a1 ≤ (9 : Int)
        omega
      have := i_eq (show v12 36 0 0 = a1 by rw [ev12]; exact up3_s)
      refine ok_some ?_
      show IM v12
      have : (0 : Int) ≤ (v11 36 0 0).toInt ∧ (v11 36 0 0).toInt ≤ (9 : Int) := hI_v11.1 36 0 0
      exact hI_v12
set_option maxHeartbeats 4000000 in
theorem k_X8_dismiss (v : Mm) (hI_v : IM v) (a1 : Int32) (a2 : Int32) : ok (g_X8_dismiss v a1 a2) (fun z => IM z.2) := by
  unfold g_X8_dismiss
  try rw [tc_6]
  refine ok_bind (k_X8_isGuard v hI_v a1 ) (fun r2 hr2 => ?_)
  replace hr2 : (0 : Int) ≤ Int32.toInt r2 ∧ Int32.toInt r2 ≤ (1 : Int) ∧ ((Int32.toInt r2 = 0 ∨ (0 ≤ Int32.toInt a1 ∧ Int32.toInt a1 ≤ 3 ∧ 0 < Int32.toInt (v 36 0 4)))) := hr2
  obtain ⟨hr2_lo, hr2_hi, hr2_p0⟩ := hr2
  have : (0 : Int) ≤ (v 36 0 4).toInt ∧ (v 36 0 4).toInt ≤ (4 : Int) := hI_v.1 36 0 4
  refine ok_ite _ (fun c4 => ?_) (fun c4 => ?_)
  · skip
    have ic4 := i_eq c4
    try clear hr2_p0
    have : (0 : Int32).toInt = 0 := (by decide)
    refine ok_some ?_
    show IM v
    have : (-1000001 : Int32).toInt = -1000001 := (by decide)
    exact hI_v
  · skip
    have ic4 : Int32.toInt r2 = 1 := one_of hr2_lo hr2_hi c4
    try replace hr2_p0 : (0 ≤ Int32.toInt a1 ∧ Int32.toInt a1 ≤ 3 ∧ 0 < Int32.toInt (v 36 0 4)) := orr hr2_p0 ic4
    have : (0 : Int32).toInt = 0 := (by decide)
    refine ok_bind (k_X8_in v hI_v a2 0 1 ) (fun r6 hr6 => ?_)
    replace hr6 : (0 : Int) ≤ Int32.toInt r6 ∧ Int32.toInt r6 ≤ (1 : Int) ∧ (Int32.toInt r6 = 0 ∨ (Int32.toInt 0 ≤ Int32.toInt a2 ∧ Int32.toInt a2 ≤ Int32.toInt 1)) := hr6
    obtain ⟨hr6_lo, hr6_hi, hr6_p0⟩ := hr6
    have : (0 : Int32).toInt = 0 := (by decide)
    have : (1 : Int32).toInt = 1 := (by decide)
    refine ok_ite _ (fun c8 => ?_) (fun c8 => ?_)
    · skip
      have ic8 := i_eq c8
      try clear hr6_p0
      have : (0 : Int32).toInt = 0 := (by decide)
      refine ok_some ?_
      show IM v
      have : (-1000001 : Int32).toInt = -1000001 := (by decide)
      exact hI_v
    · skip
      have ic8 : Int32.toInt r6 = 1 := one_of hr6_lo hr6_hi c8
      try replace hr6_p0 : (Int32.toInt 0 ≤ Int32.toInt a2 ∧ Int32.toInt a2 ≤ Int32.toInt 1) := orr hr6_p0 ic8
      have : (0 : Int32).toInt = 0 := (by decide)
      refine ok_ite _ (fun c9 => ?_) (fun c9 => ?_)
      · skip
        have ic9 := i_eq c9
        have : (1 : Int32).toInt = 1 := (by decide)
        (try have := sp_andl (a := ((v 36 0 6) >>> (a1 &&& 31))) (b := (1 : Int32)) (by omega) (by omega))
        (try have := sp_and64 (a := ((v 36 0 6) >>> (a1 &&& 31))) (b := (1 : Int32)) (by omega) (by omega) (by omega) (by omega))
        refine ok_some ?_
        show IM v
        have : (-1000002 : Int32).toInt = -1000002 := (by decide)
        exact hI_v
      · skip
        have ic9 := i_ne c9
        have : (1 : Int32).toInt = 1 := (by decide)
        (try have := sp_andl (a := ((v 36 0 6) >>> (a1 &&& 31))) (b := (1 : Int32)) (by omega) (by omega))
        (try have := sp_and64 (a := ((v 36 0 6) >>> (a1 &&& 31))) (b := (1 : Int32)) (by omega) (by omega) (by omega) (by omega))
        refine ok_bind (k_X8_notes v hI_v  ) (fun v12 hr11 => ?_)
        replace hr11 : IM v12 ∧ (Int32.toInt (v12 36 0 0) = Int32.toInt (v 36 0 0)) ∧ (Int32.toInt (v12 36 0 1) = Int32.toInt (v 36 0 1)) ∧ (Int32.toInt (v12 36 0 2) = Int32.toInt (v 36 0 2)) ∧ (Int32.toInt (v12 36 0 3) = Int32.toInt (v 36 0 3)) ∧ (Int32.toInt (v12 36 0 4) = Int32.toInt (v 36 0 4)) ∧ (Int32.toInt (v12 36 0 5) = Int32.toInt (v 36 0 5)) ∧ (Int32.toInt (v12 36 0 6) = Int32.toInt (v 36 0 6)) ∧ (Int32.toInt (v12 36 0 7) = Int32.toInt (v 36 0 7)) := hr11
        obtain ⟨hI_v12, hr11_p0, hr11_p1, hr11_p2, hr11_p3, hr11_p4, hr11_p5, hr11_p6, hr11_p7⟩ := hr11
        have : (0 : Int) ≤ (v 36 0 0).toInt ∧ (v 36 0 0).toInt ≤ (9 : Int) := hI_v.1 36 0 0
        have : (0 : Int) ≤ (v 36 0 1).toInt ∧ (v 36 0 1).toInt ≤ (9 : Int) := hI_v.1 36 0 1
        have : (0 : Int) ≤ (v 36 0 2).toInt ∧ (v 36 0 2).toInt ≤ (6 : Int) := hI_v.1 36 0 2
        have : (0 : Int) ≤ (v 36 0 3).toInt ∧ (v 36 0 3).toInt ≤ (6 : Int) := hI_v.1 36 0 3
        have : (0 : Int) ≤ (v 36 0 4).toInt ∧ (v 36 0 4).toInt ≤ (4 : Int) := hI_v.1 36 0 4
        have : (0 : Int) ≤ (v 36 0 5).toInt ∧ (v 36 0 5).toInt ≤ (999 : Int) := hI_v.1 36 0 5
        have : (0 : Int) ≤ (v 36 0 6).toInt ∧ (v 36 0 6).toInt ≤ (15 : Int) := hI_v.1 36 0 6
        have : (0 : Int) ≤ (v 36 0 7).toInt ∧ (v 36 0 7).toInt ≤ (9 : Int) := hI_v.1 36 0 7
        refine ok_let (fun v13 ev13 => ?_)
        have hI_v13 : IM v13 := by
          rw [ev13]
          refine hI_v12.upg (by decide) ?_
          show (0 : Int) ≤ Int32.toInt ((v12 36 0 6) ^^^ ((1 : Int32) <<< (a1 &&& 31))) ∧ Int32.toInt ((v12 36 0 6) ^^^ ((1 : Int32) <<< (a1 &&& 31))) ≤ (15 : Int)
          have : (0 : Int) ≤ (v12 36 0 6).toInt ∧ (v12 36 0 6).toInt ≤ (15 : Int) := hI_v12.1 36 0 6
          have : (1 : Int32).toInt = 1 := (by decide)
          (try have := sp_shl4 (b := a1) (by omega) (by omega))
          (try have := sp_shl5 (b := a1) (by omega) (by omega))
          (try have := sp_shl7 (b := a1) (by omega) (by omega))
          (try have := sp_shl (a := (1 : Int32)) (b := a1) (by omega) (by omega) (by omega) (by omega))
          (try have := sp_xor64 (a := (v12 36 0 6)) (b := ((1 : Int32) <<< (a1 &&& 31))) (by omega) (by omega) (by omega) (by omega))
          (try have := sp_xor16 (a := (v12 36 0 6)) (b := ((1 : Int32) <<< (a1 &&& 31))) (by omega) (by omega) (by omega) (by omega))
          omega
        have := i_eq (show v13 36 0 6 = ((v12 36 0 6) ^^^ ((1 : Int32) <<< (a1 &&& 31))) by rw [ev13]; exact up3_s)
        have : (0 : Int) ≤ (v12 36 0 6).toInt ∧ (v12 36 0 6).toInt ≤ (15 : Int) := hI_v12.1 36 0 6
        have : (1 : Int32).toInt = 1 := (by decide)
        (try have := sp_shl4 (b := a1) (by omega) (by omega))
        (try have := sp_shl5 (b := a1) (by omega) (by omega))
        (try have := sp_shl7 (b := a1) (by omega) (by omega))
        (try have := sp_shl (a := (1 : Int32)) (b := a1) (by omega) (by omega) (by omega) (by omega))
        (try have := sp_xor64 (a := (v12 36 0 6)) (b := ((1 : Int32) <<< (a1 &&& 31))) (by omega) (by omega) (by omega) (by omega))
        (try have := sp_xor16 (a := (v12 36 0 6)) (b := ((1 : Int32) <<< (a1 &&& 31))) (by omega) (by omega) (by omega) (by omega))
        refine ok_some ?_
        show IM v13
        have : (0 : Int) ≤ (v13 36 0 6).toInt ∧ (v13 36 0 6).toInt ≤ (15 : Int) := hI_v13.1 36 0 6
        exact hI_v13
set_option maxHeartbeats 4000000 in
theorem k_X8_undo (v : Mm) (hI_v : IM v)  : ok (g_X8_undo v ) (fun z => IM z.2) := by
  unfold g_X8_undo
  refine ok_ite _ (fun c1 => ?_) (fun c1 => ?_)
  · skip
    have ic1 := i_eq c1
    have : (0 : Int) ≤ (v 30 0 17).toInt ∧ (v 30 0 17).toInt ≤ (24 : Int) := hI_v.1 30 0 17
    have : (0 : Int32).toInt = 0 := (by decide)
    refine ok_some ?_
    show IM v
    have : (-1000002 : Int32).toInt = -1000002 := (by decide)
    exact hI_v
  · skip
    have ic1 := i_ne c1
    have : (0 : Int) ≤ (v 30 0 17).toInt ∧ (v 30 0 17).toInt ≤ (24 : Int) := hI_v.1 30 0 17
    have : (0 : Int32).toInt = 0 := (by decide)
    refine ok_let (fun v2 ev2 => ?_)
    have hI_v2 : IM v2 := by
      rw [ev2]
      refine hI_v.upo (by decide) ?_
      show (0 : Int) ≤ Int32.toInt ((v 30 0 17) - 1) ∧ Int32.toInt ((v 30 0 17) - 1) ≤ (24 : Int)
      have : (0 : Int) ≤ (v 30 0 17).toInt ∧ (v 30 0 17).toInt ≤ (24 : Int) := hI_v.1 30 0 17
      have : (1 : Int32).toInt = 1 := (by decide)
      have := i_bd (v 30 0 17)
      (first | have := sp_subx (v 30 0 17) (1 : Int32) (by omega) | obtain ⟨k1, hk1⟩ := sp_sub (v 30 0 17) (1 : Int32))
      omega
    have := i_eq (show v2 30 0 17 = ((v 30 0 17) - 1) by rw [ev2]; exact up3_s)
    have : (0 : Int) ≤ (v 30 0 17).toInt ∧ (v 30 0 17).toInt ≤ (24 : Int) := hI_v.1 30 0 17
    have : (1 : Int32).toInt = 1 := (by decide)
    have := i_bd (v 30 0 17)
    (first | have := sp_subx (v 30 0 17) (1 : Int32) (by omega) | obtain ⟨k2, hk2⟩ := sp_sub (v 30 0 17) (1 : Int32))
    refine ok_bind (k_X8_copies_39_36 v2 hI_v2 ((65 : Int32) * (v2 30 0 17)) 0 (by have : (0 : Int32).toInt = 0 := (by decide); omega) (by have : (65 : Int32).toInt = 65 := (by decide); have : (0 : Int) ≤ (v2 30 0 17).toInt ∧ (v2 30 0 17).toInt ≤ (24 : Int) := hI_v2.1 30 0 17; (first | have := sp_cmulx (65 : Int32) (v2 30 0 17) 65 (by decide) (by omega) | obtain ⟨k3, hk3⟩ := sp_cmul (65 : Int32) (v2 30 0 17) 65 (by decide)); omega) (by have : (65 : Int32).toInt = 65 := (by decide); have : (0 : Int) ≤ (v2 30 0 17).toInt ∧ (v2 30 0 17).toInt ≤ (24 : Int) := hI_v2.1 30 0 17; (first | have := sp_cmulx (65 : Int32) (v2 30 0 17) 65 (by decide) (by omega) | obtain ⟨k4, hk4⟩ := sp_cmul (65 : Int32) (v2 30 0 17) 65 (by decide)); omega) (by have : (65 : Int32).toInt = 65 := (by decide); have : (0 : Int) ≤ (v2 30 0 17).toInt ∧ (v2 30 0 17).toInt ≤ (24 : Int) := hI_v2.1 30 0 17; (first | have := sp_cmulx (65 : Int32) (v2 30 0 17) 65 (by decide) (by omega) | obtain ⟨k5, hk5⟩ := sp_cmul (65 : Int32) (v2 30 0 17) 65 (by decide)); omega)) (fun v5 hr4 => ?_)
    replace hr4 : IM v5 := hr4
    have hI_v5 := hr4
    clear hr4
    refine ok_some ?_
    show IM v5
    have : (0 : Int) ≤ (v5 30 0 17).toInt ∧ (v5 30 0 17).toInt ≤ (24 : Int) := hI_v5.1 30 0 17
    exact hI_v5
set_option maxHeartbeats 4000000 in
theorem k_X8_letter (v : Mm) (hI_v : IM v) (a1 : Int32) (a2 : Int32) : ok (g_X8_letter v a1 a2) (fun z => True) := by
  unfold g_X8_letter
  refine ok_bind (k_X8_isWord v hI_v a1 ) (fun r2 hr2 => ?_)
  replace hr2 : (0 : Int) ≤ Int32.toInt r2 ∧ Int32.toInt r2 ≤ (1 : Int) ∧ ((Int32.toInt r2 = 0 ∨ (0 ≤ Int32.toInt a1 ∧ Int32.toInt a1 ≤ 5 ∧ 0 < Int32.toInt (v 36 0 3)))) := hr2
  obtain ⟨hr2_lo, hr2_hi, hr2_p0⟩ := hr2
  have : (0 : Int) ≤ (v 36 0 3).toInt ∧ (v 36 0 3).toInt ≤ (6 : Int) := hI_v.1 36 0 3
  refine ok_ite _ (fun c4 => ?_) (fun c4 => ?_)
  · skip
    have ic4 := i_eq c4
    try clear hr2_p0
    have : (0 : Int32).toInt = 0 := (by decide)
    refine ok_some ?_
    show True
    have : (-1000001 : Int32).toInt = -1000001 := (by decide)
    trivial
  · skip
    have ic4 : Int32.toInt r2 = 1 := one_of hr2_lo hr2_hi c4
    try replace hr2_p0 : (0 ≤ Int32.toInt a1 ∧ Int32.toInt a1 ≤ 5 ∧ 0 < Int32.toInt (v 36 0 3)) := orr hr2_p0 ic4
    have : (0 : Int32).toInt = 0 := (by decide)
    refine ok_bind (k_X8_in v hI_v a2 0 2 ) (fun r6 hr6 => ?_)
    replace hr6 : (0 : Int) ≤ Int32.toInt r6 ∧ Int32.toInt r6 ≤ (1 : Int) ∧ (Int32.toInt r6 = 0 ∨ (Int32.toInt 0 ≤ Int32.toInt a2 ∧ Int32.toInt a2 ≤ Int32.toInt 2)) := hr6
    obtain ⟨hr6_lo, hr6_hi, hr6_p0⟩ := hr6
    have : (0 : Int32).toInt = 0 := (by decide)
    have : (2 : Int32).toInt = 2 := (by decide)
    refine ok_ite _ (fun c8 => ?_) (fun c8 => ?_)
    · skip
      have ic8 := i_eq c8
      try clear hr6_p0
      have : (0 : Int32).toInt = 0 := (by decide)
      refine ok_some ?_
      show True
      have : (-1000001 : Int32).toInt = -1000001 := (by decide)
      trivial
    · skip
      have ic8 : Int32.toInt r6 = 1 := one_of hr6_lo hr6_hi c8
      try replace hr6_p0 : (Int32.toInt 0 ≤ Int32.toInt a2 ∧ Int32.toInt a2 ≤ Int32.toInt 2) := orr hr6_p0 ic8
      have : (0 : Int32).toInt = 0 := (by decide)
      refine ok_grd _ ?_ ?_
      · skip
        have : (8 : Int32).toInt = 8 := (by decide)
        have : (3 : Int32).toInt = 3 := (by decide)
        (first | have := sp_cmulx (3 : Int32) a1 3 (by decide) (by omega) | obtain ⟨k1, hk1⟩ := sp_cmul (3 : Int32) a1 3 (by decide))
        (first | have := sp_addx (8 : Int32) ((3 : Int32) * a1) (by omega) | obtain ⟨k2, hk2⟩ := sp_add (8 : Int32) ((3 : Int32) * a1))
        have := i_bd a2
        (first | have := sp_addx ((8 : Int32) + ((3 : Int32) * a1)) a2 (by omega) | obtain ⟨k3, hk3⟩ := sp_add ((8 : Int32) + ((3 : Int32) * a1)) a2)
        exact gr (by omega) (by omega)
      refine ok_some ?_
      show True
      have : (8 : Int32).toInt = 8 := (by decide)
      have : (3 : Int32).toInt = 3 := (by decide)
      (first | have := sp_cmulx (3 : Int32) a1 3 (by decide) (by omega) | obtain ⟨k4, hk4⟩ := sp_cmul (3 : Int32) a1 3 (by decide))
      (first | have := sp_addx (8 : Int32) ((3 : Int32) * a1) (by omega) | obtain ⟨k5, hk5⟩ := sp_add (8 : Int32) ((3 : Int32) * a1))
      have := i_bd a2
      (first | have := sp_addx ((8 : Int32) + ((3 : Int32) * a1)) a2 (by omega) | obtain ⟨k6, hk6⟩ := sp_add ((8 : Int32) + ((3 : Int32) * a1)) a2)
      (try have := gw_w hI_v.1 (e := (((8 : Int32) + ((3 : Int32) * a1)) + a2)) (by omega) (by omega) (by omega))
      (try have := gw_g hI_v.1 (e := (((8 : Int32) + ((3 : Int32) * a1)) + a2)) (by omega) (by omega) (by omega))
      trivial
set_option maxHeartbeats 4000000 in
theorem k_X8_like (v : Mm) (hI_v : IM v) (a1 : Int32) (a2 : Int32) (a3 : Int32) : ok (g_X8_like v a1 a2 a3) (fun z => True) := by
  unfold g_X8_like
  refine ok_bind (k_X8_isWord v hI_v a1 ) (fun r2 hr2 => ?_)
  replace hr2 : (0 : Int) ≤ Int32.toInt r2 ∧ Int32.toInt r2 ≤ (1 : Int) ∧ ((Int32.toInt r2 = 0 ∨ (0 ≤ Int32.toInt a1 ∧ Int32.toInt a1 ≤ 5 ∧ 0 < Int32.toInt (v 36 0 3)))) := hr2
  obtain ⟨hr2_lo, hr2_hi, hr2_p0⟩ := hr2
  have : (0 : Int) ≤ (v 36 0 3).toInt ∧ (v 36 0 3).toInt ≤ (6 : Int) := hI_v.1 36 0 3
  refine ok_ite _ (fun c4 => ?_) (fun c4 => ?_)
  · skip
    have ic4 := i_eq c4
    try clear hr2_p0
    have : (0 : Int32).toInt = 0 := (by decide)
    refine ok_some ?_
    show True
    have : (-1000001 : Int32).toInt = -1000001 := (by decide)
    trivial
  · skip
    have ic4 : Int32.toInt r2 = 1 := one_of hr2_lo hr2_hi c4
    try replace hr2_p0 : (0 ≤ Int32.toInt a1 ∧ Int32.toInt a1 ≤ 5 ∧ 0 < Int32.toInt (v 36 0 3)) := orr hr2_p0 ic4
    have : (0 : Int32).toInt = 0 := (by decide)
    refine ok_bind (k_X8_isWord v hI_v a2 ) (fun r6 hr6 => ?_)
    replace hr6 : (0 : Int) ≤ Int32.toInt r6 ∧ Int32.toInt r6 ≤ (1 : Int) ∧ ((Int32.toInt r6 = 0 ∨ (0 ≤ Int32.toInt a2 ∧ Int32.toInt a2 ≤ 5 ∧ 0 < Int32.toInt (v 36 0 3)))) := hr6
    obtain ⟨hr6_lo, hr6_hi, hr6_p0⟩ := hr6
    have : (0 : Int) ≤ (v 36 0 3).toInt ∧ (v 36 0 3).toInt ≤ (6 : Int) := hI_v.1 36 0 3
    refine ok_ite _ (fun c8 => ?_) (fun c8 => ?_)
    · skip
      have ic8 := i_eq c8
      try clear hr6_p0
      have : (0 : Int32).toInt = 0 := (by decide)
      refine ok_some ?_
      show True
      have : (-1000001 : Int32).toInt = -1000001 := (by decide)
      trivial
    · skip
      have ic8 : Int32.toInt r6 = 1 := one_of hr6_lo hr6_hi c8
      try replace hr6_p0 : (0 ≤ Int32.toInt a2 ∧ Int32.toInt a2 ≤ 5 ∧ 0 < Int32.toInt (v 36 0 3)) := orr hr6_p0 ic8
      have : (0 : Int32).toInt = 0 := (by decide)
      refine ok_bind (k_X8_in v hI_v a3 0 1 ) (fun r10 hr10 => ?_)
      replace hr10 : (0 : Int) ≤ Int32.toInt r10 ∧ Int32.toInt r10 ≤ (1 : Int) ∧ (Int32.toInt r10 = 0 ∨ (Int32.toInt 0 ≤ Int32.toInt a3 ∧ Int32.toInt a3 ≤ Int32.toInt 1)) := hr10
      obtain ⟨hr10_lo, hr10_hi, hr10_p0⟩ := hr10
      have : (0 : Int32).toInt = 0 := (by decide)
      have : (1 : Int32).toInt = 1 := (by decide)
      refine ok_ite _ (fun c12 => ?_) (fun c12 => ?_)
      · skip
        have ic12 := i_eq c12
        try clear hr10_p0
        have : (0 : Int32).toInt = 0 := (by decide)
        refine ok_some ?_
        show True
        have : (-1000001 : Int32).toInt = -1000001 := (by decide)
        trivial
      · skip
        have ic12 : Int32.toInt r10 = 1 := one_of hr10_lo hr10_hi c12
        try replace hr10_p0 : (Int32.toInt 0 ≤ Int32.toInt a3 ∧ Int32.toInt a3 ≤ Int32.toInt 1) := orr hr10_p0 ic12
        have : (0 : Int32).toInt = 0 := (by decide)
        refine ok_ite _ (fun c13 => ?_) (fun c13 => ?_)
        · skip
          have ic13 := i_eq c13
          have : (0 : Int32).toInt = 0 := (by decide)
          refine ok_bind (k_X8_distance v hI_v a1 a2 (by omega) (by omega)) (fun r15 hr15 => ?_)
          replace hr15 : (0 : Int) ≤ Int32.toInt r15 ∧ Int32.toInt r15 ≤ (3 : Int) := hr15
          obtain ⟨hr15_lo, hr15_hi⟩ := hr15
          refine ok_some ?_
          show True
          trivial
        · skip
          have ic13 := i_ne c13
          have : (0 : Int32).toInt = 0 := (by decide)
          refine ok_bind (k_X8_lips v hI_v a1 a2 (by omega) (by omega)) (fun r18 hr18 => ?_)
          replace hr18 : (0 : Int) ≤ Int32.toInt r18 ∧ Int32.toInt r18 ≤ (3 : Int) := hr18
          obtain ⟨hr18_lo, hr18_hi⟩ := hr18
          refine ok_some ?_
          show True
          trivial
set_option maxHeartbeats 4000000 in
theorem k_X8_hoursOf (v : Mm) (hI_v : IM v) (a1 : Int32) (hx0 : 0 < Int32.toInt (v 36 0 4)) : ok (g_X8_hoursOf v a1) (fun z => True) := by
  have : ((v 36 0 3).toInt = 0 ∧ (v 36 0 4).toInt = 0) ∨ (0 < (v 36 0 3).toInt ∧ 0 < (v 36 0 4).toInt) := hI_v.2.1
  have : (0 : Int) ≤ (v 36 0 4).toInt ∧ (v 36 0 4).toInt ≤ (4 : Int) := hI_v.1 36 0 4
  have loop4 : ∀ (n4 : Nat) (x2_4 : Int32) (x3_4 : Int32), ((0 : Int) ≤ Int32.toInt x3_4 ∧ Int32.toInt x3_4 ≤ (6 : Int)) → (6 - Int32.toInt x3_4 < (n4 : Int)) → ok (g_X8_hoursOf_L4  v a1 n4 x2_4 x3_4) (fun z => True) := by
    intro n4
    induction n4 with
    | zero =>
      intro x2_4 x3_4 hv0_4 hm4
      exfalso
      omega
    | succ n4 ih4 =>
      intro x2_4 x3_4 hv0_4 hm4
      show ok (b_X8_hoursOf_L4  (g_X8_hoursOf_L4  v a1 n4) v a1 x2_4 x3_4) _
      unfold b_X8_hoursOf_L4
      try rw [tc_5]
      refine ok_ite _ (fun c1 => ?_) (fun c1 => ?_)
      · skip
        have ic1 := i_le c1
        have : (6 : Int32).toInt = 6 := (by decide)
        refine ok_some ?_
        show True
        trivial
      · skip
        have ic1 := i_nle c1
        have : (6 : Int32).toInt = 6 := (by decide)
        refine ok_bind (k_X8_guardOn v hI_v x3_4 (v 36 0 5) (by omega) (by have : (0 : Int) ≤ (v 36 0 5).toInt ∧ (v 36 0 5).toInt ≤ (999 : Int) := hI_v.1 36 0 5; omega) (by omega)) (fun r3 hr3 => ?_)
        replace hr3 : (0 : Int) ≤ Int32.toInt r3 ∧ Int32.toInt r3 ≤ (3 : Int) := hr3
        obtain ⟨hr3_lo, hr3_hi⟩ := hr3
        refine ok_ite _ (fun c5 => ?_) (fun c5 => ?_)
        · skip
          have ic5 := i_eq c5
          refine ok_let (fun x6 ex6 => ?_)
          have : (1 : Int32).toInt = 1 := (by decide)
          (try have := sp_shl4 (b := x3_4) (by omega) (by omega))
          (try have := sp_shl5 (b := x3_4) (by omega) (by omega))
          (try have := sp_shl7 (b := x3_4) (by omega) (by omega))
          (try have := sp_shl (a := (1 : Int32)) (b := x3_4) (by omega) (by omega) (by omega) (by omega))
          (try have := sp_or64 (a := x2_4) (b := ((1 : Int32) <<< (x3_4 &&& 31))) (by omega) (by omega) (by omega) (by omega))
          (try have := sp_or16 (a := x2_4) (b := ((1 : Int32) <<< (x3_4 &&& 31))) (by omega) (by omega) (by omega) (by omega))
          have := i_eq ex6
          have : (1 : Int32).toInt = 1 := (by decide)
          have := i_bd x3_4
          (first | have := sp_addx x3_4 (1 : Int32) (by omega) | obtain ⟨k1, hk1⟩ := sp_add x3_4 (1 : Int32))
          exact ih4 x6 (x3_4 + 1) (by omega) (by omega)
        · skip
          have ic5 := i_ne c5
          have : (0 : Int32).toInt = 0 := (by decide)
          (try have := sp_or64 (a := x2_4) (b := (0 : Int32)) (by omega) (by omega) (by omega) (by omega))
          (try have := sp_or16 (a := x2_4) (b := (0 : Int32)) (by omega) (by omega) (by omega) (by omega))
          have : (1 : Int32).toInt = 1 := (by decide)
          have := i_bd x3_4
          (first | have := sp_addx x3_4 (1 : Int32) (by omega) | obtain ⟨k2, hk2⟩ := sp_add x3_4 (1 : Int32))
          exact ih4 (x2_4 ||| 0) (x3_4 + 1) (by omega) (by omega)
  unfold g_X8_hoursOf
  try rw [tc_5]
  have : (0 : Int) ≤ (v 36 0 4).toInt ∧ (v 36 0 4).toInt ≤ (4 : Int) := hI_v.1 36 0 4
  have : (0 : Int32).toInt = 0 := (by decide)
  exact loop4 2000 0 0 (by omega) (by omega)
set_option maxHeartbeats 4000000 in
theorem k_X8_guard (v : Mm) (hI_v : IM v) (a1 : Int32) (a2 : Int32) : ok (g_X8_guard v a1 a2) (fun z => True) := by
  have : ((v 36 0 3).toInt = 0 ∧ (v 36 0 4).toInt = 0) ∨ (0 < (v 36 0 3).toInt ∧ 0 < (v 36 0 4).toInt) := hI_v.2.1
  unfold g_X8_guard
  try rw [tc_6]
  refine ok_bind (k_X8_isGuard v hI_v a1 ) (fun r2 hr2 => ?_)
  replace hr2 : (0 : Int) ≤ Int32.toInt r2 ∧ Int32.toInt r2 ≤ (1 : Int) ∧ ((Int32.toInt r2 = 0 ∨ (0 ≤ Int32.toInt a1 ∧ Int32.toInt a1 ≤ 3 ∧ 0 < Int32.toInt (v 36 0 4)))) := hr2
  obtain ⟨hr2_lo, hr2_hi, hr2_p0⟩ := hr2
  have : (0 : Int) ≤ (v 36 0 4).toInt ∧ (v 36 0 4).toInt ≤ (4 : Int) := hI_v.1 36 0 4
  refine ok_ite _ (fun c4 => ?_) (fun c4 => ?_)
  · skip
    have ic4 := i_eq c4
    try clear hr2_p0
    have : (0 : Int32).toInt = 0 := (by decide)
    refine ok_some ?_
    show True
    have : (-1000001 : Int32).toInt = -1000001 := (by decide)
    trivial
  · skip
    have ic4 : Int32.toInt r2 = 1 := one_of hr2_lo hr2_hi c4
    try replace hr2_p0 : (0 ≤ Int32.toInt a1 ∧ Int32.toInt a1 ≤ 3 ∧ 0 < Int32.toInt (v 36 0 4)) := orr hr2_p0 ic4
    have : (0 : Int32).toInt = 0 := (by decide)
    refine ok_ite _ (fun c5 => ?_) (fun c5 => ?_)
    · skip
      have ic5 := i_eq c5
      have : (0 : Int32).toInt = 0 := (by decide)
      refine ok_grd _ ?_ ?_
      · skip
        have : (26 : Int32).toInt = 26 := (by decide)
        have : (3 : Int32).toInt = 3 := (by decide)
        (first | have := sp_cmulx (3 : Int32) a1 3 (by decide) (by omega) | obtain ⟨k1, hk1⟩ := sp_cmul (3 : Int32) a1 3 (by decide))
        (first | have := sp_addx (26 : Int32) ((3 : Int32) * a1) (by omega) | obtain ⟨k2, hk2⟩ := sp_add (26 : Int32) ((3 : Int32) * a1))
        have : (1 : Int32).toInt = 1 := (by decide)
        (first | have := sp_addx ((26 : Int32) + ((3 : Int32) * a1)) (1 : Int32) (by omega) | obtain ⟨k3, hk3⟩ := sp_add ((26 : Int32) + ((3 : Int32) * a1)) (1 : Int32))
        exact gr (by omega) (by omega)
      refine ok_some ?_
      show True
      have : (26 : Int32).toInt = 26 := (by decide)
      have : (3 : Int32).toInt = 3 := (by decide)
      (first | have := sp_cmulx (3 : Int32) a1 3 (by decide) (by omega) | obtain ⟨k4, hk4⟩ := sp_cmul (3 : Int32) a1 3 (by decide))
      (first | have := sp_addx (26 : Int32) ((3 : Int32) * a1) (by omega) | obtain ⟨k5, hk5⟩ := sp_add (26 : Int32) ((3 : Int32) * a1))
      have : (1 : Int32).toInt = 1 := (by decide)
      (first | have := sp_addx ((26 : Int32) + ((3 : Int32) * a1)) (1 : Int32) (by omega) | obtain ⟨k6, hk6⟩ := sp_add ((26 : Int32) + ((3 : Int32) * a1)) (1 : Int32))
      (try have := gw_w hI_v.1 (e := (((26 : Int32) + ((3 : Int32) * a1)) + 1)) (by omega) (by omega) (by omega))
      (try have := gw_g hI_v.1 (e := (((26 : Int32) + ((3 : Int32) * a1)) + 1)) (by omega) (by omega) (by omega))
      trivial
    · skip
      have ic5 := i_ne c5
      have : (0 : Int32).toInt = 0 := (by decide)
      refine ok_ite _ (fun c7 => ?_) (fun c7 => ?_)
      · skip
        have ic7 := i_eq c7
        have : (1 : Int32).toInt = 1 := (by decide)
        refine ok_grd _ ?_ ?_
        · skip
          have : (26 : Int32).toInt = 26 := (by decide)
          have : (3 : Int32).toInt = 3 := (by decide)
          (first | have := sp_cmulx (3 : Int32) a1 3 (by decide) (by omega) | obtain ⟨k7, hk7⟩ := sp_cmul (3 : Int32) a1 3 (by decide))
          (first | have := sp_addx (26 : Int32) ((3 : Int32) * a1) (by omega) | obtain ⟨k8, hk8⟩ := sp_add (26 : Int32) ((3 : Int32) * a1))
          have : (2 : Int32).toInt = 2 := (by decide)
          (first | have := sp_addx ((26 : Int32) + ((3 : Int32) * a1)) (2 : Int32) (by omega) | obtain ⟨k9, hk9⟩ := sp_add ((26 : Int32) + ((3 : Int32) * a1)) (2 : Int32))
          exact gr (by omega) (by omega)
        refine ok_some ?_
        show True
        have : (26 : Int32).toInt = 26 := (by decide)
        have : (3 : Int32).toInt = 3 := (by decide)
        (first | have := sp_cmulx (3 : Int32) a1 3 (by decide) (by omega) | obtain ⟨k10, hk10⟩ := sp_cmul (3 : Int32) a1 3 (by decide))
        (first | have := sp_addx (26 : Int32) ((3 : Int32) * a1) (by omega) | obtain ⟨k11, hk11⟩ := sp_add (26 : Int32) ((3 : Int32) * a1))
        have : (2 : Int32).toInt = 2 := (by decide)
        (first | have := sp_addx ((26 : Int32) + ((3 : Int32) * a1)) (2 : Int32) (by omega) | obtain ⟨k12, hk12⟩ := sp_add ((26 : Int32) + ((3 : Int32) * a1)) (2 : Int32))
        (try have := gw_w hI_v.1 (e := (((26 : Int32) + ((3 : Int32) * a1)) + 2)) (by omega) (by omega) (by omega))
        (try have := gw_g hI_v.1 (e := (((26 : Int32) + ((3 : Int32) * a1)) + 2)) (by omega) (by omega) (by omega))
        trivial
      · skip
        have ic7 := i_ne c7
        have : (1 : Int32).toInt = 1 := (by decide)
        refine ok_ite _ (fun c9 => ?_) (fun c9 => ?_)
        · skip
          have ic9 := i_eq c9
          have : (2 : Int32).toInt = 2 := (by decide)
          refine ok_some ?_
          show True
          have : (1 : Int32).toInt = 1 := (by decide)
          (try have := sp_andl (a := ((v 36 0 6) >>> (a1 &&& 31))) (b := (1 : Int32)) (by omega) (by omega))
          (try have := sp_and64 (a := ((v 36 0 6) >>> (a1 &&& 31))) (b := (1 : Int32)) (by omega) (by omega) (by omega) (by omega))
          trivial
        · skip
          have ic9 := i_ne c9
          have : (2 : Int32).toInt = 2 := (by decide)
          refine ok_ite _ (fun c10 => ?_) (fun c10 => ?_)
          · skip
            have ic10 := i_eq c10
            have : (3 : Int32).toInt = 3 := (by decide)
            refine ok_bind (k_X8_hoursOf v hI_v a1 (by omega)) (fun r12 hr12 => ?_)
            clear hr12
            refine ok_some ?_
            show True
            trivial
          · skip
            have ic10 := i_ne c10
            have : (3 : Int32).toInt = 3 := (by decide)
            refine ok_some ?_
            show True
            have : (-1000001 : Int32).toInt = -1000001 := (by decide)
            trivial
set_option maxHeartbeats 4000000 in
theorem k_X8_tried (v : Mm) (hI_v : IM v) (a1 : Int32) (a2 : Int32) : ok (g_X8_tried v a1 a2) (fun z => True) := by
  unfold g_X8_tried
  try rw [tc_7]
  refine ok_bind (k_X8_in v hI_v a1 0 ((v 36 0 7) - 1) ) (fun r2 hr2 => ?_)
  replace hr2 : (0 : Int) ≤ Int32.toInt r2 ∧ Int32.toInt r2 ≤ (1 : Int) ∧ (Int32.toInt r2 = 0 ∨ (Int32.toInt 0 ≤ Int32.toInt a1 ∧ Int32.toInt a1 ≤ Int32.toInt ((v 36 0 7) - 1))) := hr2
  obtain ⟨hr2_lo, hr2_hi, hr2_p0⟩ := hr2
  have : (0 : Int) ≤ (v 36 0 7).toInt ∧ (v 36 0 7).toInt ≤ (9 : Int) := hI_v.1 36 0 7
  have : (0 : Int32).toInt = 0 := (by decide)
  have : (0 : Int) ≤ (v 36 0 7).toInt ∧ (v 36 0 7).toInt ≤ (9 : Int) := hI_v.1 36 0 7
  have : (1 : Int32).toInt = 1 := (by decide)
  have := i_bd (v 36 0 7)
  (first | have := sp_subx (v 36 0 7) (1 : Int32) (by omega) | obtain ⟨k1, hk1⟩ := sp_sub (v 36 0 7) (1 : Int32))
  refine ok_ite _ (fun c4 => ?_) (fun c4 => ?_)
  · skip
    have ic4 := i_eq c4
    try clear hr2_p0
    have : (0 : Int32).toInt = 0 := (by decide)
    refine ok_some ?_
    show True
    have : (-1000001 : Int32).toInt = -1000001 := (by decide)
    trivial
  · skip
    have ic4 : Int32.toInt r2 = 1 := one_of hr2_lo hr2_hi c4
    try replace hr2_p0 : (Int32.toInt 0 ≤ Int32.toInt a1 ∧ Int32.toInt a1 ≤ Int32.toInt ((v 36 0 7) - 1)) := orr hr2_p0 ic4
    have : (0 : Int32).toInt = 0 := (by decide)
    refine ok_bind (k_X8_in v hI_v a2 0 2 ) (fun r6 hr6 => ?_)
    replace hr6 : (0 : Int) ≤ Int32.toInt r6 ∧ Int32.toInt r6 ≤ (1 : Int) ∧ (Int32.toInt r6 = 0 ∨ (Int32.toInt 0 ≤ Int32.toInt a2 ∧ Int32.toInt a2 ≤ Int32.toInt 2)) := hr6
    obtain ⟨hr6_lo, hr6_hi, hr6_p0⟩ := hr6
    have : (0 : Int32).toInt = 0 := (by decide)
    have : (2 : Int32).toInt = 2 := (by decide)
    refine ok_ite _ (fun c8 => ?_) (fun c8 => ?_)
    · skip
      have ic8 := i_eq c8
      try clear hr6_p0
      have : (0 : Int32).toInt = 0 := (by decide)
      refine ok_some ?_
      show True
      have : (-1000001 : Int32).toInt = -1000001 := (by decide)
      trivial
    · skip
      have ic8 : Int32.toInt r6 = 1 := one_of hr6_lo hr6_hi c8
      try replace hr6_p0 : (Int32.toInt 0 ≤ Int32.toInt a2 ∧ Int32.toInt a2 ≤ Int32.toInt 2) := orr hr6_p0 ic8
      have : (0 : Int32).toInt = 0 := (by decide)
      refine ok_grd _ ?_ ?_
      · skip
        have : (38 : Int32).toInt = 38 := (by decide)
        have : (3 : Int32).toInt = 3 := (by decide)
        (first | have := sp_cmulx (3 : Int32) a1 3 (by decide) (by omega) | obtain ⟨k2, hk2⟩ := sp_cmul (3 : Int32) a1 3 (by decide))
        (first | have := sp_addx (38 : Int32) ((3 : Int32) * a1) (by omega) | obtain ⟨k3, hk3⟩ := sp_add (38 : Int32) ((3 : Int32) * a1))
        have := i_bd a2
        (first | have := sp_addx ((38 : Int32) + ((3 : Int32) * a1)) a2 (by omega) | obtain ⟨k4, hk4⟩ := sp_add ((38 : Int32) + ((3 : Int32) * a1)) a2)
        exact gr (by omega) (by omega)
      refine ok_let (fun x10 ex10 => ?_)
      have : (38 : Int32).toInt = 38 := (by decide)
      have : (3 : Int32).toInt = 3 := (by decide)
      (first | have := sp_cmulx (3 : Int32) a1 3 (by decide) (by omega) | obtain ⟨k5, hk5⟩ := sp_cmul (3 : Int32) a1 3 (by decide))
      (first | have := sp_addx (38 : Int32) ((3 : Int32) * a1) (by omega) | obtain ⟨k6, hk6⟩ := sp_add (38 : Int32) ((3 : Int32) * a1))
      have := i_bd a2
      (first | have := sp_addx ((38 : Int32) + ((3 : Int32) * a1)) a2 (by omega) | obtain ⟨k7, hk7⟩ := sp_add ((38 : Int32) + ((3 : Int32) * a1)) a2)
      (try have := gw_w hI_v.1 (e := (((38 : Int32) + ((3 : Int32) * a1)) + a2)) (by omega) (by omega) (by omega))
      (try have := gw_g hI_v.1 (e := (((38 : Int32) + ((3 : Int32) * a1)) + a2)) (by omega) (by omega) (by omega))
      have := i_eq ex10
      refine ok_ite _ (fun c11 => ?_) (fun c11 => ?_)
      · skip
        have ic11 := i_eq c11
        have : (1 : Int32).toInt = 1 := (by decide)
        refine ok_ite _ (fun c12 => ?_) (fun c12 => ?_)
        · skip
          have ic12 := i_eq c12
          have : (0 : Int32).toInt = 0 := (by decide)
          refine ok_some ?_
          show True
          have : (-1000000 : Int32).toInt = -1000000 := (by decide)
          trivial
        · skip
          have ic12 := i_ne c12
          have : (0 : Int32).toInt = 0 := (by decide)
          refine ok_some ?_
          show True
          have : (1 : Int32).toInt = 1 := (by decide)
          have := i_bd x10
          (first | have := sp_subx x10 (1 : Int32) (by omega) | obtain ⟨k8, hk8⟩ := sp_sub x10 (1 : Int32))
          trivial
      · skip
        have ic11 := i_ne c11
        have : (1 : Int32).toInt = 1 := (by decide)
        refine ok_some ?_
        show True
        trivial
set_option maxHeartbeats 4000000 in
theorem k_X8_secret (v : Mm) (hI_v : IM v) (a1 : Int32) : ok (g_X8_secret v a1) (fun z => True) := by
  have : ((v 36 0 3).toInt = 0 ∧ (v 36 0 4).toInt = 0) ∨ (0 < (v 36 0 3).toInt ∧ 0 < (v 36 0 4).toInt) := hI_v.2.1
  unfold g_X8_secret
  try rw [tc_5]
  refine ok_bind (k_X8_isGate v hI_v  ) (fun r2 hr2 => ?_)
  replace hr2 : (0 : Int) ≤ Int32.toInt r2 ∧ Int32.toInt r2 ≤ (1 : Int) ∧ ((Int32.toInt r2 = 0 ∧ Int32.toInt (v 36 0 3) = 0) ∨ 0 < Int32.toInt (v 36 0 3)) := hr2
  obtain ⟨hr2_lo, hr2_hi, hr2_p0⟩ := hr2
  have : (0 : Int) ≤ (v 36 0 3).toInt ∧ (v 36 0 3).toInt ≤ (6 : Int) := hI_v.1 36 0 3
  refine ok_ite _ (fun c4 => ?_) (fun c4 => ?_)
  · skip
    have ic4 := i_eq c4
    have : (0 : Int32).toInt = 0 := (by decide)
    refine ok_some ?_
    show True
    have : (-1000002 : Int32).toInt = -1000002 := (by decide)
    trivial
  · skip
    have ic4 : Int32.toInt r2 = 1 := one_of hr2_lo hr2_hi c4
    have : (0 : Int32).toInt = 0 := (by decide)
    refine ok_bind (k_X8_isFar v hI_v a1 ) (fun r6 hr6 => ?_)
    replace hr6 : (0 : Int) ≤ Int32.toInt r6 ∧ Int32.toInt r6 ≤ (1 : Int) ∧ ((Int32.toInt r6 = 0 ∨ (0 ≤ Int32.toInt a1 ∧ Int32.toInt a1 ≤ 60))) := hr6
    obtain ⟨hr6_lo, hr6_hi, hr6_p0⟩ := hr6
    refine ok_ite _ (fun c8 => ?_) (fun c8 => ?_)
    · skip
      have ic8 := i_eq c8
      try clear hr6_p0
      have : (0 : Int32).toInt = 0 := (by decide)
      refine ok_some ?_
      show True
      have : (-1000001 : Int32).toInt = -1000001 := (by decide)
      trivial
    · skip
      have ic8 : Int32.toInt r6 = 1 := one_of hr6_lo hr6_hi c8
      try replace hr6_p0 : (0 ≤ Int32.toInt a1 ∧ Int32.toInt a1 ≤ 60) := orr hr6_p0 ic8
      have : (0 : Int32).toInt = 0 := (by decide)
      refine ok_bind (k_X8_secretOf_36 v hI_v ((v 36 0 5) + a1) (by have : (0 : Int) ≤ (v 36 0 5).toInt ∧ (v 36 0 5).toInt ≤ (999 : Int) := hI_v.1 36 0 5; have := i_bd (v 36 0 5); have := i_bd a1; (first | have := sp_addx (v 36 0 5) a1 (by omega) | obtain ⟨k1, hk1⟩ := sp_add (v 36 0 5) a1); omega) (by omega)) (fun r10 hr10 => ?_)
      replace hr10 : (0 : Int) ≤ Int32.toInt r10 ∧ Int32.toInt r10 ≤ (5 : Int) := hr10
      obtain ⟨hr10_lo, hr10_hi⟩ := hr10
      refine ok_some ?_
      show True
      trivial
set_option maxHeartbeats 4000000 in
theorem k_X8_taken (v : Mm) (hI_v : IM v) (a1 : Int32) (a2 : Int32) (a3 : Int32) : ok (g_X8_taken v a1 a2 a3) (fun z => True) := by
  have : ((v 36 0 3).toInt = 0 ∧ (v 36 0 4).toInt = 0) ∨ (0 < (v 36 0 3).toInt ∧ 0 < (v 36 0 4).toInt) := hI_v.2.1
  unfold g_X8_taken
  refine ok_bind (k_X8_isWord v hI_v a1 ) (fun r2 hr2 => ?_)
  replace hr2 : (0 : Int) ≤ Int32.toInt r2 ∧ Int32.toInt r2 ≤ (1 : Int) ∧ ((Int32.toInt r2 = 0 ∨ (0 ≤ Int32.toInt a1 ∧ Int32.toInt a1 ≤ 5 ∧ 0 < Int32.toInt (v 36 0 3)))) := hr2
  obtain ⟨hr2_lo, hr2_hi, hr2_p0⟩ := hr2
  have : (0 : Int) ≤ (v 36 0 3).toInt ∧ (v 36 0 3).toInt ≤ (6 : Int) := hI_v.1 36 0 3
  refine ok_ite _ (fun c4 => ?_) (fun c4 => ?_)
  · skip
    have ic4 := i_eq c4
    try clear hr2_p0
    have : (0 : Int32).toInt = 0 := (by decide)
    refine ok_some ?_
    show True
    have : (-1000001 : Int32).toInt = -1000001 := (by decide)
    trivial
  · skip
    have ic4 : Int32.toInt r2 = 1 := one_of hr2_lo hr2_hi c4
    try replace hr2_p0 : (0 ≤ Int32.toInt a1 ∧ Int32.toInt a1 ≤ 5 ∧ 0 < Int32.toInt (v 36 0 3)) := orr hr2_p0 ic4
    have : (0 : Int32).toInt = 0 := (by decide)
    refine ok_bind (k_X8_isHour v hI_v a2 ) (fun r6 hr6 => ?_)
    replace hr6 : (0 : Int) ≤ Int32.toInt r6 ∧ Int32.toInt r6 ≤ (1 : Int) ∧ ((Int32.toInt r6 = 0 ∨ (0 ≤ Int32.toInt a2 ∧ Int32.toInt a2 ≤ 5))) := hr6
    obtain ⟨hr6_lo, hr6_hi, hr6_p0⟩ := hr6
    refine ok_ite _ (fun c8 => ?_) (fun c8 => ?_)
    · skip
      have ic8 := i_eq c8
      try clear hr6_p0
      have : (0 : Int32).toInt = 0 := (by decide)
      refine ok_some ?_
      show True
      have : (-1000001 : Int32).toInt = -1000001 := (by decide)
      trivial
    · skip
      have ic8 : Int32.toInt r6 = 1 := one_of hr6_lo hr6_hi c8
      try replace hr6_p0 : (0 ≤ Int32.toInt a2 ∧ Int32.toInt a2 ≤ 5) := orr hr6_p0 ic8
      have : (0 : Int32).toInt = 0 := (by decide)
      refine ok_bind (k_X8_isFar v hI_v a3 ) (fun r10 hr10 => ?_)
      replace hr10 : (0 : Int) ≤ Int32.toInt r10 ∧ Int32.toInt r10 ≤ (1 : Int) ∧ ((Int32.toInt r10 = 0 ∨ (0 ≤ Int32.toInt a3 ∧ Int32.toInt a3 ≤ 60))) := hr10
      obtain ⟨hr10_lo, hr10_hi, hr10_p0⟩ := hr10
      refine ok_ite _ (fun c12 => ?_) (fun c12 => ?_)
      · skip
        have ic12 := i_eq c12
        try clear hr10_p0
        have : (0 : Int32).toInt = 0 := (by decide)
        refine ok_some ?_
        show True
        have : (-1000001 : Int32).toInt = -1000001 := (by decide)
        trivial
      · skip
        have ic12 : Int32.toInt r10 = 1 := one_of hr10_lo hr10_hi c12
        try replace hr10_p0 : (0 ≤ Int32.toInt a3 ∧ Int32.toInt a3 ≤ 60) := orr hr10_p0 ic12
        have : (0 : Int32).toInt = 0 := (by decide)
        refine ok_bind (k_X8_isTakenNow v hI_v a1 a2 a3 (by omega) (by omega) (by omega) (by omega) (by omega)) (fun r14 hr14 => ?_)
        replace hr14 : (0 : Int) ≤ Int32.toInt r14 ∧ Int32.toInt r14 ≤ (1 : Int) := hr14
        obtain ⟨hr14_lo, hr14_hi⟩ := hr14
        refine ok_ite _ (fun c16 => ?_) (fun c16 => ?_)
        · skip
          have ic16 := i_eq c16
          have : (0 : Int32).toInt = 0 := (by decide)
          refine ok_some ?_
          show True
          have : (0 : Int32).toInt = 0 := (by decide)
          trivial
        · skip
          have ic16 : Int32.toInt r14 = 1 := one_of hr14_lo hr14_hi c16
          have : (0 : Int32).toInt = 0 := (by decide)
          refine ok_some ?_
          show True
          have : (1 : Int32).toInt = 1 := (by decide)
          trivial
set_option maxHeartbeats 4000000 in
theorem k_X8_safe (v : Mm) (hI_v : IM v) (a1 : Int32) (a2 : Int32) : ok (g_X8_safe v a1 a2) (fun z => True) := by
  have : ((v 36 0 3).toInt = 0 ∧ (v 36 0 4).toInt = 0) ∨ (0 < (v 36 0 3).toInt ∧ 0 < (v 36 0 4).toInt) := hI_v.2.1
  have loop32 : ∀ (n32 : Nat) (x3_32 : Int32) (x4_32 : Int32), ((0 : Int) ≤ Int32.toInt x4_32 ∧ Int32.toInt x4_32 ≤ (6 : Int)) → (0 < Int32.toInt (v 36 0 3)) → (0 ≤ Int32.toInt a1 ∧ Int32.toInt a1 ≤ 5) → (0 ≤ Int32.toInt a2 ∧ Int32.toInt a2 ≤ 60) → (6 - Int32.toInt x4_32 < (n32 : Int)) → ok (g_X8_safe_L32  v a1 a2 n32 x3_32 x4_32) (fun z => True) := by
    intro n32
    induction n32 with
    | zero =>
      intro x3_32 x4_32 hv0_32 hv1_32 hv2_32 hv3_32 hm32
      exfalso
      have : (0 : Int) ≤ (v 36 0 3).toInt ∧ (v 36 0 3).toInt ≤ (6 : Int) := hI_v.1 36 0 3
      omega
    | succ n32 ih32 =>
      intro x3_32 x4_32 hv0_32 hv1_32 hv2_32 hv3_32 hm32
      show ok (b_X8_safe_L32  (g_X8_safe_L32  v a1 a2 n32) v a1 a2 x3_32 x4_32) _
      unfold b_X8_safe_L32
      try rw [tc_3]
      have : (0 : Int) ≤ (v 36 0 3).toInt ∧ (v 36 0 3).toInt ≤ (6 : Int) := hI_v.1 36 0 3
      refine ok_ite _ (fun c1 => ?_) (fun c1 => ?_)
      · skip
        have ic1 := i_le c1
        have : (0 : Int) ≤ (v 36 0 3).toInt ∧ (v 36 0 3).toInt ≤ (6 : Int) := hI_v.1 36 0 3
        refine ok_some ?_
        show True
        trivial
      · skip
        have ic1 := i_nle c1
        have : (0 : Int) ≤ (v 36 0 3).toInt ∧ (v 36 0 3).toInt ≤ (6 : Int) := hI_v.1 36 0 3
        refine ok_bind (k_X8_isTakenNow v hI_v x4_32 a1 a2 (by omega) (by omega) (by omega) (by omega) (by omega)) (fun r3 hr3 => ?_)
        replace hr3 : (0 : Int) ≤ Int32.toInt r3 ∧ Int32.toInt r3 ≤ (1 : Int) := hr3
        obtain ⟨hr3_lo, hr3_hi⟩ := hr3
        refine ok_ite _ (fun c5 => ?_) (fun c5 => ?_)
        · skip
          have ic5 := i_eq c5
          have : (0 : Int32).toInt = 0 := (by decide)
          refine ok_let (fun x6 ex6 => ?_)
          have : (1 : Int32).toInt = 1 := (by decide)
          (try have := sp_shl4 (b := x4_32) (by omega) (by omega))
          (try have := sp_shl5 (b := x4_32) (by omega) (by omega))
          (try have := sp_shl7 (b := x4_32) (by omega) (by omega))
          (try have := sp_shl (a := (1 : Int32)) (b := x4_32) (by omega) (by omega) (by omega) (by omega))
          (try have := sp_or64 (a := x3_32) (b := ((1 : Int32) <<< (x4_32 &&& 31))) (by omega) (by omega) (by omega) (by omega))
          (try have := sp_or16 (a := x3_32) (b := ((1 : Int32) <<< (x4_32 &&& 31))) (by omega) (by omega) (by omega) (by omega))
          have := i_eq ex6
          have : (1 : Int32).toInt = 1 := (by decide)
          have := i_bd x4_32
          (first | have := sp_addx x4_32 (1 : Int32) (by omega) | obtain ⟨k1, hk1⟩ := sp_add x4_32 (1 : Int32))
          exact ih32 x6 (x4_32 + 1) (by omega) (by omega) (by omega) (by omega) (by omega)
        · skip
          have ic5 : Int32.toInt r3 = 1 := one_of hr3_lo hr3_hi c5
          have : (0 : Int32).toInt = 0 := (by decide)
          have : (0 : Int32).toInt = 0 := (by decide)
          (try have := sp_or64 (a := x3_32) (b := (0 : Int32)) (by omega) (by omega) (by omega) (by omega))
          (try have := sp_or16 (a := x3_32) (b := (0 : Int32)) (by omega) (by omega) (by omega) (by omega))
          have : (1 : Int32).toInt = 1 := (by decide)
          have := i_bd x4_32
          (first | have := sp_addx x4_32 (1 : Int32) (by omega) | obtain ⟨k2, hk2⟩ := sp_add x4_32 (1 : Int32))
          exact ih32 (x3_32 ||| 0) (x4_32 + 1) (by omega) (by omega) (by omega) (by omega) (by omega)
  unfold g_X8_safe
  try rw [tc_3]
  refine ok_bind (k_X8_isGate v hI_v  ) (fun r8 hr8 => ?_)
  replace hr8 : (0 : Int) ≤ Int32.toInt r8 ∧ Int32.toInt r8 ≤ (1 : Int) ∧ ((Int32.toInt r8 = 0 ∧ Int32.toInt (v 36 0 3) = 0) ∨ 0 < Int32.toInt (v 36 0 3)) := hr8
  obtain ⟨hr8_lo, hr8_hi, hr8_p0⟩ := hr8
  have : (0 : Int) ≤ (v 36 0 3).toInt ∧ (v 36 0 3).toInt ≤ (6 : Int) := hI_v.1 36 0 3
  refine ok_ite _ (fun c10 => ?_) (fun c10 => ?_)
  · skip
    have ic10 := i_eq c10
    have : (0 : Int32).toInt = 0 := (by decide)
    refine ok_some ?_
    show True
    have : (-1000002 : Int32).toInt = -1000002 := (by decide)
    trivial
  · skip
    have ic10 : Int32.toInt r8 = 1 := one_of hr8_lo hr8_hi c10
    have : (0 : Int32).toInt = 0 := (by decide)
    refine ok_bind (k_X8_isHour v hI_v a1 ) (fun r12 hr12 => ?_)
    replace hr12 : (0 : Int) ≤ Int32.toInt r12 ∧ Int32.toInt r12 ≤ (1 : Int) ∧ ((Int32.toInt r12 = 0 ∨ (0 ≤ Int32.toInt a1 ∧ Int32.toInt a1 ≤ 5))) := hr12
    obtain ⟨hr12_lo, hr12_hi, hr12_p0⟩ := hr12
    refine ok_ite _ (fun c14 => ?_) (fun c14 => ?_)
    · skip
      have ic14 := i_eq c14
      try clear hr12_p0
      have : (0 : Int32).toInt = 0 := (by decide)
      refine ok_some ?_
      show True
      have : (-1000001 : Int32).toInt = -1000001 := (by decide)
      trivial
    · skip
      have ic14 : Int32.toInt r12 = 1 := one_of hr12_lo hr12_hi c14
      try replace hr12_p0 : (0 ≤ Int32.toInt a1 ∧ Int32.toInt a1 ≤ 5) := orr hr12_p0 ic14
      have : (0 : Int32).toInt = 0 := (by decide)
      refine ok_bind (k_X8_isFar v hI_v a2 ) (fun r16 hr16 => ?_)
      replace hr16 : (0 : Int) ≤ Int32.toInt r16 ∧ Int32.toInt r16 ≤ (1 : Int) ∧ ((Int32.toInt r16 = 0 ∨ (0 ≤ Int32.toInt a2 ∧ Int32.toInt a2 ≤ 60))) := hr16
      obtain ⟨hr16_lo, hr16_hi, hr16_p0⟩ := hr16
      refine ok_ite _ (fun c18 => ?_) (fun c18 => ?_)
      · skip
        have ic18 := i_eq c18
        try clear hr16_p0
        have : (0 : Int32).toInt = 0 := (by decide)
        refine ok_some ?_
        show True
        have : (-1000001 : Int32).toInt = -1000001 := (by decide)
        trivial
      · skip
        have ic18 : Int32.toInt r16 = 1 := one_of hr16_lo hr16_hi c18
        try replace hr16_p0 : (0 ≤ Int32.toInt a2 ∧ Int32.toInt a2 ≤ 60) := orr hr16_p0 ic18
        have : (0 : Int32).toInt = 0 := (by decide)
        have : (0 : Int32).toInt = 0 := (by decide)
        exact loop32 2000 0 0 (by omega) (by omega) (by omega) (by omega) (by omega)
set_option maxHeartbeats 4000000 in
theorem k_X8_areIn (v : Mm) (hI_v : IM v) (a1 : Int32) (a2 : Int32) (a3 : Int32) (a4 : Int32) (h_a2 : (0 : Int) ≤ a2.toInt ∧ a2.toInt ≤ (5 : Int)) (h_a3 : (0 : Int) ≤ a3.toInt ∧ a3.toInt ≤ (60 : Int)) (hx0 : 0 < Int32.toInt (v 36 0 3)) (hx1 : 0 < Int32.toInt (v 36 0 4)) : ok (g_X8_areIn v a1 a2 a3 a4) (fun z => (0 : Int) ≤ Int32.toInt z ∧ Int32.toInt z ≤ (1 : Int)) := by
  have : ((v 36 0 3).toInt = 0 ∧ (v 36 0 4).toInt = 0) ∨ (0 < (v 36 0 3).toInt ∧ 0 < (v 36 0 4).toInt) := hI_v.2.1
  have : (0 : Int) ≤ (v 36 0 3).toInt ∧ (v 36 0 3).toInt ≤ (6 : Int) := hI_v.1 36 0 3
  have : (0 : Int) ≤ (v 36 0 4).toInt ∧ (v 36 0 4).toInt ≤ (4 : Int) := hI_v.1 36 0 4
  have loop16 : ∀ (n16 : Nat) (x5_16 : Int32) (x6_16 : Int32) (x7_16 : Int32), ((0 : Int) ≤ Int32.toInt x5_16 ∧ Int32.toInt x5_16 ≤ (1100 : Int)) → ((0 : Int) ≤ Int32.toInt x6_16 ∧ Int32.toInt x6_16 ≤ (1 : Int)) → ((0 : Int) ≤ Int32.toInt x7_16 ∧ Int32.toInt x7_16 ≤ (6 : Int)) → (6 - Int32.toInt x7_16 < (n16 : Int)) → ok (g_X8_areIn_L16  v a1 a2 a3 a4 n16 x5_16 x6_16 x7_16) (fun z => (0 : Int) ≤ Int32.toInt z ∧ Int32.toInt z ≤ (1 : Int)) := by
    intro n16
    induction n16 with
    | zero =>
      intro x5_16 x6_16 x7_16 hv0_16 hv1_16 hv2_16 hm16
      exfalso
      omega
    | succ n16 ih16 =>
      intro x5_16 x6_16 x7_16 hv0_16 hv1_16 hv2_16 hm16
      show ok (b_X8_areIn_L16  (g_X8_areIn_L16  v a1 a2 a3 a4 n16) v a1 a2 a3 a4 x5_16 x6_16 x7_16) _
      unfold b_X8_areIn_L16
      try rw [tc_3]
      try rw [tc_5]
      refine ok_ite _ (fun c1 => ?_) (fun c1 => ?_)
      · skip
        have ic1 := i_le c1
        have : (0 : Int) ≤ (v 36 0 3).toInt ∧ (v 36 0 3).toInt ≤ (6 : Int) := hI_v.1 36 0 3
        refine ok_some ?_
        show (0 : Int) ≤ Int32.toInt x6_16 ∧ Int32.toInt x6_16 ≤ (1 : Int)
        omega
      · skip
        have ic1 := i_nle c1
        have : (0 : Int) ≤ (v 36 0 3).toInt ∧ (v 36 0 3).toInt ≤ (6 : Int) := hI_v.1 36 0 3
        refine ok_ite _ (fun c2 => ?_) (fun c2 => ?_)
        · skip
          have ic2 := i_eq c2
          have : (0 : Int32).toInt = 0 := (by decide)
          have : (0 : Int32).toInt = 0 := (by decide)
          have : (1 : Int32).toInt = 1 := (by decide)
          have := i_bd x7_16
          (first | have := sp_addx x7_16 (1 : Int32) (by omega) | obtain ⟨k1, hk1⟩ := sp_add x7_16 (1 : Int32))
          exact ih16 x5_16 0 (x7_16 + 1) (by omega) (by omega) (by omega) (by omega)
        · skip
          have ic2 := i_ne c2
          have : (0 : Int32).toInt = 0 := (by decide)
          refine ok_bind (k_X8_has v hI_v a1 x7_16 ) (fun r4 hr4 => ?_)
          replace hr4 : (0 : Int) ≤ Int32.toInt r4 ∧ Int32.toInt r4 ≤ (1 : Int) := hr4
          obtain ⟨hr4_lo, hr4_hi⟩ := hr4
          refine ok_ite _ (fun c6 => ?_) (fun c6 => ?_)
          · skip
            have ic6 := i_eq c6
            have : (0 : Int32).toInt = 0 := (by decide)
            have : (1 : Int32).toInt = 1 := (by decide)
            have := i_bd x7_16
            (first | have := sp_addx x7_16 (1 : Int32) (by omega) | obtain ⟨k2, hk2⟩ := sp_add x7_16 (1 : Int32))
            exact ih16 x5_16 1 (x7_16 + 1) (by omega) (by omega) (by omega) (by omega)
          · skip
            have ic6 : Int32.toInt r4 = 1 := one_of hr4_lo hr4_hi c6
            have : (0 : Int32).toInt = 0 := (by decide)
            refine ok_bind (k_X8_secretOf_36 v hI_v x5_16 (by omega) (by omega)) (fun r8 hr8 => ?_)
            replace hr8 : (0 : Int) ≤ Int32.toInt r8 ∧ Int32.toInt r8 ≤ (5 : Int) := hr8
            obtain ⟨hr8_lo, hr8_hi⟩ := hr8
            refine ok_bind (k_X8_isTaken v hI_v x7_16 a2 x5_16 a4 r8 (by omega) (by omega) (by omega) (by omega) (by omega)) (fun r11 hr11 => ?_)
            replace hr11 : (0 : Int) ≤ Int32.toInt r11 ∧ Int32.toInt r11 ≤ (1 : Int) := hr11
            obtain ⟨hr11_lo, hr11_hi⟩ := hr11
            refine ok_ite _ (fun c13 => ?_) (fun c13 => ?_)
            · skip
              have ic13 := i_eq c13
              have : (0 : Int32).toInt = 0 := (by decide)
              have : (1 : Int32).toInt = 1 := (by decide)
              have := i_bd x7_16
              (first | have := sp_addx x7_16 (1 : Int32) (by omega) | obtain ⟨k3, hk3⟩ := sp_add x7_16 (1 : Int32))
              exact ih16 x5_16 1 (x7_16 + 1) (by omega) (by omega) (by omega) (by omega)
            · skip
              have ic13 : Int32.toInt r11 = 1 := one_of hr11_lo hr11_hi c13
              have : (0 : Int32).toInt = 0 := (by decide)
              have : (0 : Int32).toInt = 0 := (by decide)
              have : (1 : Int32).toInt = 1 := (by decide)
              have := i_bd x7_16
              (first | have := sp_addx x7_16 (1 : Int32) (by omega) | obtain ⟨k4, hk4⟩ := sp_add x7_16 (1 : Int32))
              exact ih16 x5_16 0 (x7_16 + 1) (by omega) (by omega) (by omega) (by omega)
  unfold g_X8_areIn
  try rw [tc_3]
  try rw [tc_5]
  have : (0 : Int) ≤ (v 36 0 3).toInt ∧ (v 36 0 3).toInt ≤ (6 : Int) := hI_v.1 36 0 3
  have : (0 : Int) ≤ (v 36 0 4).toInt ∧ (v 36 0 4).toInt ≤ (4 : Int) := hI_v.1 36 0 4
  refine ok_let (fun x14 ex14 => ?_)
  have : (0 : Int) ≤ (v 36 0 5).toInt ∧ (v 36 0 5).toInt ≤ (999 : Int) := hI_v.1 36 0 5
  have := i_bd (v 36 0 5)
  have := i_bd a3
  (first | have := sp_addx (v 36 0 5) a3 (by omega) | obtain ⟨k5, hk5⟩ := sp_add (v 36 0 5) a3)
  have := i_eq ex14
  have : (1 : Int32).toInt = 1 := (by decide)
  have : (0 : Int32).toInt = 0 := (by decide)
  exact loop16 2000 x14 1 0 (by omega) (by omega) (by omega) (by omega)
set_option maxHeartbeats 4000000 in
theorem k_X8_open (v : Mm) (hI_v : IM v) (a1 : Int32) (a2 : Int32) : ok (g_X8_open v a1 a2) (fun z => True) := by
  have : ((v 36 0 3).toInt = 0 ∧ (v 36 0 4).toInt = 0) ∨ (0 < (v 36 0 3).toInt ∧ 0 < (v 36 0 4).toInt) := hI_v.2.1
  have loop33 : ∀ (n33 : Nat) (x3_33 : Int32) (x4_33 : Int32), ((0 : Int) ≤ Int32.toInt x4_33 ∧ Int32.toInt x4_33 ≤ (6 : Int)) → (0 < Int32.toInt (v 36 0 3)) → (0 ≤ Int32.toInt a2 ∧ Int32.toInt a2 ≤ 60) → (6 - Int32.toInt x4_33 < (n33 : Int)) → ok (g_X8_open_L33  v a1 a2 n33 x3_33 x4_33) (fun z => True) := by
    intro n33
    induction n33 with
    | zero =>
      intro x3_33 x4_33 hv0_33 hv1_33 hv2_33 hm33
      exfalso
      have : (0 : Int) ≤ (v 36 0 3).toInt ∧ (v 36 0 3).toInt ≤ (6 : Int) := hI_v.1 36 0 3
      omega
    | succ n33 ih33 =>
      intro x3_33 x4_33 hv0_33 hv1_33 hv2_33 hm33
      show ok (b_X8_open_L33  (g_X8_open_L33  v a1 a2 n33) v a1 a2 x3_33 x4_33) _
      unfold b_X8_open_L33
      try rw [tc_6]
      have : (0 : Int) ≤ (v 36 0 3).toInt ∧ (v 36 0 3).toInt ≤ (6 : Int) := hI_v.1 36 0 3
      refine ok_ite _ (fun c1 => ?_) (fun c1 => ?_)
      · skip
        have ic1 := i_le c1
        have : (6 : Int32).toInt = 6 := (by decide)
        refine ok_some ?_
        show True
        trivial
      · skip
        have ic1 := i_nle c1
        have : (6 : Int32).toInt = 6 := (by decide)
        refine ok_bind (k_X8_areIn v hI_v a1 x4_33 a2 (v 36 0 6) (by omega) (by omega) (by omega) (by omega)) (fun r3 hr3 => ?_)
        replace hr3 : (0 : Int) ≤ Int32.toInt r3 ∧ Int32.toInt r3 ≤ (1 : Int) := hr3
        obtain ⟨hr3_lo, hr3_hi⟩ := hr3
        refine ok_ite _ (fun c5 => ?_) (fun c5 => ?_)
        · skip
          have ic5 := i_eq c5
          have : (0 : Int32).toInt = 0 := (by decide)
          have : (0 : Int32).toInt = 0 := (by decide)
          (try have := sp_or64 (a := x3_33) (b := (0 : Int32)) (by omega) (by omega) (by omega) (by omega))
          (try have := sp_or16 (a := x3_33) (b := (0 : Int32)) (by omega) (by omega) (by omega) (by omega))
          have : (1 : Int32).toInt = 1 := (by decide)
          have := i_bd x4_33
          (first | have := sp_addx x4_33 (1 : Int32) (by omega) | obtain ⟨k1, hk1⟩ := sp_add x4_33 (1 : Int32))
          exact ih33 (x3_33 ||| 0) (x4_33 + 1) (by omega) (by omega) (by omega) (by omega)
        · skip
          have ic5 : Int32.toInt r3 = 1 := one_of hr3_lo hr3_hi c5
          have : (0 : Int32).toInt = 0 := (by decide)
          refine ok_let (fun x6 ex6 => ?_)
          have : (1 : Int32).toInt = 1 := (by decide)
          (try have := sp_shl4 (b := x4_33) (by omega) (by omega))
          (try have := sp_shl5 (b := x4_33) (by omega) (by omega))
          (try have := sp_shl7 (b := x4_33) (by omega) (by omega))
          (try have := sp_shl (a := (1 : Int32)) (b := x4_33) (by omega) (by omega) (by omega) (by omega))
          (try have := sp_or64 (a := x3_33) (b := ((1 : Int32) <<< (x4_33 &&& 31))) (by omega) (by omega) (by omega) (by omega))
          (try have := sp_or16 (a := x3_33) (b := ((1 : Int32) <<< (x4_33 &&& 31))) (by omega) (by omega) (by omega) (by omega))
          have := i_eq ex6
          have : (1 : Int32).toInt = 1 := (by decide)
          have := i_bd x4_33
          (first | have := sp_addx x4_33 (1 : Int32) (by omega) | obtain ⟨k2, hk2⟩ := sp_add x4_33 (1 : Int32))
          exact ih33 x6 (x4_33 + 1) (by omega) (by omega) (by omega) (by omega)
  unfold g_X8_open
  try rw [tc_6]
  refine ok_bind (k_X8_isGate v hI_v  ) (fun r8 hr8 => ?_)
  replace hr8 : (0 : Int) ≤ Int32.toInt r8 ∧ Int32.toInt r8 ≤ (1 : Int) ∧ ((Int32.toInt r8 = 0 ∧ Int32.toInt (v 36 0 3) = 0) ∨ 0 < Int32.toInt (v 36 0 3)) := hr8
  obtain ⟨hr8_lo, hr8_hi, hr8_p0⟩ := hr8
  have : (0 : Int) ≤ (v 36 0 3).toInt ∧ (v 36 0 3).toInt ≤ (6 : Int) := hI_v.1 36 0 3
  refine ok_ite _ (fun c10 => ?_) (fun c10 => ?_)
  · skip
    have ic10 := i_eq c10
    have : (0 : Int32).toInt = 0 := (by decide)
    refine ok_some ?_
    show True
    have : (-1000002 : Int32).toInt = -1000002 := (by decide)
    trivial
  · skip
    have ic10 : Int32.toInt r8 = 1 := one_of hr8_lo hr8_hi c10
    have : (0 : Int32).toInt = 0 := (by decide)
    refine ok_bind (k_X8_areWords v hI_v a1 ) (fun r12 hr12 => ?_)
    replace hr12 : (0 : Int) ≤ Int32.toInt r12 ∧ Int32.toInt r12 ≤ (1 : Int) ∧ ((Int32.toInt r12 = 0 ∨ (0 ≤ Int32.toInt a1 ∧ Int32.toInt a1 ≤ 63))) := hr12
    obtain ⟨hr12_lo, hr12_hi, hr12_p0⟩ := hr12
    refine ok_ite _ (fun c14 => ?_) (fun c14 => ?_)
    · skip
      have ic14 := i_eq c14
      try clear hr12_p0
      have : (0 : Int32).toInt = 0 := (by decide)
      refine ok_some ?_
      show True
      have : (-1000001 : Int32).toInt = -1000001 := (by decide)
      trivial
    · skip
      have ic14 : Int32.toInt r12 = 1 := one_of hr12_lo hr12_hi c14
      try replace hr12_p0 : (0 ≤ Int32.toInt a1 ∧ Int32.toInt a1 ≤ 63) := orr hr12_p0 ic14
      have : (0 : Int32).toInt = 0 := (by decide)
      refine ok_bind (k_X8_isFar v hI_v a2 ) (fun r16 hr16 => ?_)
      replace hr16 : (0 : Int) ≤ Int32.toInt r16 ∧ Int32.toInt r16 ≤ (1 : Int) ∧ ((Int32.toInt r16 = 0 ∨ (0 ≤ Int32.toInt a2 ∧ Int32.toInt a2 ≤ 60))) := hr16
      obtain ⟨hr16_lo, hr16_hi, hr16_p0⟩ := hr16
      refine ok_ite _ (fun c18 => ?_) (fun c18 => ?_)
      · skip
        have ic18 := i_eq c18
        try clear hr16_p0
        have : (0 : Int32).toInt = 0 := (by decide)
        refine ok_some ?_
        show True
        have : (-1000001 : Int32).toInt = -1000001 := (by decide)
        trivial
      · skip
        have ic18 : Int32.toInt r16 = 1 := one_of hr16_lo hr16_hi c18
        try replace hr16_p0 : (0 ≤ Int32.toInt a2 ∧ Int32.toInt a2 ≤ 60) := orr hr16_p0 ic18
        have : (0 : Int32).toInt = 0 := (by decide)
        have : (0 : Int32).toInt = 0 := (by decide)
        exact loop33 2000 0 0 (by omega) (by omega) (by omega) (by omega)
set_option maxHeartbeats 4000000 in
theorem k_X8_next (v : Mm) (hI_v : IM v) (a1 : Int32) : ok (g_X8_next v a1) (fun z => True) := by
  have : ((v 36 0 3).toInt = 0 ∧ (v 36 0 4).toInt = 0) ∨ (0 < (v 36 0 3).toInt ∧ 0 < (v 36 0 4).toInt) := hI_v.2.1
  have loop13 : ∀ (n13 : Nat) (x2_13 : Int32), ((0 : Int) ≤ Int32.toInt x2_13 ∧ Int32.toInt x2_13 ≤ (61 : Int)) → (0 < Int32.toInt (v 36 0 3)) → (61 - Int32.toInt x2_13 < (n13 : Int)) → ok (g_X8_next_L13  v a1 n13 x2_13) (fun z => True) := by
    intro n13
    induction n13 with
    | zero =>
      intro x2_13 hv0_13 hv1_13 hm13
      exfalso
      have : (0 : Int) ≤ (v 36 0 3).toInt ∧ (v 36 0 3).toInt ≤ (6 : Int) := hI_v.1 36 0 3
      omega
    | succ n13 ih13 =>
      intro x2_13 hv0_13 hv1_13 hm13
      show ok (b_X8_next_L13  (g_X8_next_L13  v a1 n13) v a1 x2_13) _
      unfold b_X8_next_L13
      try rw [tc_5]
      have : (0 : Int) ≤ (v 36 0 3).toInt ∧ (v 36 0 3).toInt ≤ (6 : Int) := hI_v.1 36 0 3
      refine ok_ite _ (fun c1 => ?_) (fun c1 => ?_)
      · skip
        have ic1 := i_le c1
        have : (61 : Int32).toInt = 61 := (by decide)
        refine ok_some ?_
        show True
        have : (-1000000 : Int32).toInt = -1000000 := (by decide)
        trivial
      · skip
        have ic1 := i_nle c1
        have : (61 : Int32).toInt = 61 := (by decide)
        refine ok_bind (k_X8_secretOf_36 v hI_v ((v 36 0 5) + x2_13) (by have : (0 : Int) ≤ (v 36 0 5).toInt ∧ (v 36 0 5).toInt ≤ (999 : Int) := hI_v.1 36 0 5; have := i_bd (v 36 0 5); have := i_bd x2_13; (first | have := sp_addx (v 36 0 5) x2_13 (by omega) | obtain ⟨k1, hk1⟩ := sp_add (v 36 0 5) x2_13); omega) (by omega)) (fun r3 hr3 => ?_)
        replace hr3 : (0 : Int) ≤ Int32.toInt r3 ∧ Int32.toInt r3 ≤ (5 : Int) := hr3
        obtain ⟨hr3_lo, hr3_hi⟩ := hr3
        refine ok_ite _ (fun c5 => ?_) (fun c5 => ?_)
        · skip
          have ic5 := i_eq c5
          refine ok_some ?_
          show True
          trivial
        · skip
          have ic5 := i_ne c5
          have : (1 : Int32).toInt = 1 := (by decide)
          have := i_bd x2_13
          (first | have := sp_addx x2_13 (1 : Int32) (by omega) | obtain ⟨k2, hk2⟩ := sp_add x2_13 (1 : Int32))
          exact ih13 (x2_13 + 1) (by omega) (by omega) (by omega)
  unfold g_X8_next
  try rw [tc_5]
  refine ok_bind (k_X8_isWord v hI_v a1 ) (fun r7 hr7 => ?_)
  replace hr7 : (0 : Int) ≤ Int32.toInt r7 ∧ Int32.toInt r7 ≤ (1 : Int) ∧ ((Int32.toInt r7 = 0 ∨ (0 ≤ Int32.toInt a1 ∧ Int32.toInt a1 ≤ 5 ∧ 0 < Int32.toInt (v 36 0 3)))) := hr7
  obtain ⟨hr7_lo, hr7_hi, hr7_p0⟩ := hr7
  have : (0 : Int) ≤ (v 36 0 3).toInt ∧ (v 36 0 3).toInt ≤ (6 : Int) := hI_v.1 36 0 3
  refine ok_ite _ (fun c9 => ?_) (fun c9 => ?_)
  · skip
    have ic9 := i_eq c9
    try clear hr7_p0
    have : (0 : Int32).toInt = 0 := (by decide)
    refine ok_some ?_
    show True
    have : (-1000001 : Int32).toInt = -1000001 := (by decide)
    trivial
  · skip
    have ic9 : Int32.toInt r7 = 1 := one_of hr7_lo hr7_hi c9
    try replace hr7_p0 : (0 ≤ Int32.toInt a1 ∧ Int32.toInt a1 ≤ 5 ∧ 0 < Int32.toInt (v 36 0 3)) := orr hr7_p0 ic9
    have : (0 : Int32).toInt = 0 := (by decide)
    have : (0 : Int32).toInt = 0 := (by decide)
    exact loop13 2000 0 (by omega) (by omega) (by omega)
