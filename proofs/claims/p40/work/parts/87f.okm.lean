set_option maxHeartbeats 4000000 in
theorem k_X8_must (v : Mm) (hI_v : IM v) (a1 : Int32) (h_a1 : (0 : Int) ≤ a1.toInt ∧ a1.toInt ≤ (1 : Int)) : ok (g_X8_must v a1) (fun z => IM z ∧ (Int32.toInt (z 37 0 3) = Int32.toInt (v 37 0 3)) ∧ (Int32.toInt (z 37 0 4) = Int32.toInt (v 37 0 4)) ∧ (Int32.toInt (v 30 0 8) ≤ Int32.toInt (z 30 0 8)) ∧ (0 ≤ Int32.toInt (z 30 0 8) + Int32.toInt a1) ∧ (Int32.toInt a1 = 0 ∨ (Int32.toInt (z 30 0 11) = Int32.toInt (v 30 0 11) ∧ Int32.toInt (z 30 0 12) = Int32.toInt (v 30 0 12)))) := by
  unfold g_X8_must
  refine ok_bind (k_X8_isWell v hI_v  ) (fun r2 hr2 => ?_)
  replace hr2 : (0 : Int) ≤ Int32.toInt r2 ∧ Int32.toInt r2 ≤ (1 : Int) ∧ (0 ≤ Int32.toInt (v 30 0 8) + Int32.toInt r2) ∧ (Int32.toInt (v 30 0 8) ≤ 100 - 101 * Int32.toInt r2) := hr2
  obtain ⟨hr2_lo, hr2_hi, hr2_p0, hr2_p1⟩ := hr2
  have : (-1 : Int) ≤ (v 30 0 8).toInt ∧ (v 30 0 8).toInt ≤ (100 : Int) := hI_v.1 30 0 8
  refine ok_ite _ (fun c4 => ?_) (fun c4 => ?_)
  · skip
    have ic4 := i_eq c4
    have : (0 : Int32).toInt = 0 := (by decide)
    refine ok_some ?_
    show IM v ∧ (Int32.toInt (v 37 0 3) = Int32.toInt (v 37 0 3)) ∧ (Int32.toInt (v 37 0 4) = Int32.toInt (v 37 0 4)) ∧ (Int32.toInt (v 30 0 8) ≤ Int32.toInt (v 30 0 8)) ∧ (0 ≤ Int32.toInt (v 30 0 8) + Int32.toInt a1) ∧ (Int32.toInt a1 = 0 ∨ (Int32.toInt (v 30 0 11) = Int32.toInt (v 30 0 11) ∧ Int32.toInt (v 30 0 12) = Int32.toInt (v 30 0 12)))
    refine ⟨hI_v, ?_⟩
    omega
  · skip
    have ic4 : Int32.toInt r2 = 1 := one_of hr2_lo hr2_hi c4
    have : (0 : Int32).toInt = 0 := (by decide)
    refine ok_ite _ (fun c5 => ?_) (fun c5 => ?_)
    · skip
      have ic5 := i_eq c5
      have : (0 : Int32).toInt = 0 := (by decide)
      refine ok_kb2 (k_X8_takes v hI_v 0 1 (by have : (0 : Int32).toInt = 0 := (by decide); omega)) (fun r7 v8 hr7 => ?_)
      replace hr7 : IM v8 ∧ (Int32.toInt (v8 37 0 3) = Int32.toInt (v 37 0 3)) ∧ (Int32.toInt (v8 37 0 4) = Int32.toInt (v 37 0 4)) ∧ (Int32.toInt (v 30 0 8) ≤ Int32.toInt (v8 30 0 8)) ∧ (0 ≤ Int32.toInt (v8 30 0 8) + Int32.toInt 0) := hr7
      obtain ⟨hI_v8, hr7_p0, hr7_p1, hr7_p2, hr7_p3⟩ := hr7
      have : (0 : Int) ≤ (v 37 0 3).toInt ∧ (v 37 0 3).toInt ≤ (6 : Int) := hI_v.1 37 0 3
      have : (0 : Int) ≤ (v 37 0 4).toInt ∧ (v 37 0 4).toInt ≤ (4 : Int) := hI_v.1 37 0 4
      have : (-1 : Int) ≤ (v 30 0 8).toInt ∧ (v 30 0 8).toInt ≤ (100 : Int) := hI_v.1 30 0 8
      have : (0 : Int32).toInt = 0 := (by decide)
      have : (1 : Int32).toInt = 1 := (by decide)
      refine ok_some ?_
      show IM v8 ∧ (Int32.toInt (v8 37 0 3) = Int32.toInt (v 37 0 3)) ∧ (Int32.toInt (v8 37 0 4) = Int32.toInt (v 37 0 4)) ∧ (Int32.toInt (v 30 0 8) ≤ Int32.toInt (v8 30 0 8)) ∧ (0 ≤ Int32.toInt (v8 30 0 8) + Int32.toInt a1) ∧ (Int32.toInt a1 = 0 ∨ (Int32.toInt (v8 30 0 11) = Int32.toInt (v 30 0 11) ∧ Int32.toInt (v8 30 0 12) = Int32.toInt (v 30 0 12)))
      refine ⟨hI_v8, ?_⟩
      omega
    · skip
      have ic5 := i_ne c5
      have : (0 : Int32).toInt = 0 := (by decide)
      refine ok_some ?_
      show IM v ∧ (Int32.toInt (v 37 0 3) = Int32.toInt (v 37 0 3)) ∧ (Int32.toInt (v 37 0 4) = Int32.toInt (v 37 0 4)) ∧ (Int32.toInt (v 30 0 8) ≤ Int32.toInt (v 30 0 8)) ∧ (0 ≤ Int32.toInt (v 30 0 8) + Int32.toInt a1) ∧ (Int32.toInt a1 = 0 ∨ (Int32.toInt (v 30 0 11) = Int32.toInt (v 30 0 11) ∧ Int32.toInt (v 30 0 12) = Int32.toInt (v 30 0 12)))
      refine ⟨hI_v, ?_⟩
      omega
set_option maxHeartbeats 4000000 in
theorem k_X8_gate (v : Mm) (hI_v : IM v)  : ok (g_X8_gate v ) (fun z => IM z.2) := by
  have : ((v 36 0 3).toInt = 0 ∧ (v 36 0 4).toInt = 0) ∨ (0 < (v 36 0 3).toInt ∧ 0 < (v 36 0 4).toInt) := hI_v.2.1
  have join253 : ∀ (w253 : Mm) (x1_253 : Int32), (IM w253) → (0 ≤ Int32.toInt (w253 30 0 8) ∨ (0 < Int32.toInt (w253 37 0 3) ∧ 0 < Int32.toInt (w253 37 0 4))) →  ok (Option.bind (some (up3 w253 30 0 6 0)) (fun v1 => Option.bind (g_X8_isWell v1) (fun r3 => if r3 = 0 then (some (((-1000100)) - (v1 30 0 8), v1)) else (Option.bind (g_X8_copies_37_36 v1 0 0) (fun v8 => Option.bind (some (up3 v8 30 0 17 0)) (fun v9 => some (v9 36 0 3, v9))))))) (fun z => IM z.2) := by
    intro w253 x1_253 hI_w253 hv0_253
    have : ((w253 36 0 3).toInt = 0 ∧ (w253 36 0 4).toInt = 0) ∨ (0 < (w253 36 0 3).toInt ∧ 0 < (w253 36 0 4).toInt) := hI_w253.2.1
    have : (-1 : Int) ≤ (w253 30 0 8).toInt ∧ (w253 30 0 8).toInt ≤ (100 : Int) := hI_w253.1 30 0 8
    have : (0 : Int) ≤ (w253 37 0 3).toInt ∧ (w253 37 0 3).toInt ≤ (6 : Int) := hI_w253.1 37 0 3
    have : (0 : Int) ≤ (w253 37 0 4).toInt ∧ (w253 37 0 4).toInt ≤ (4 : Int) := hI_w253.1 37 0 4
    refine ok_let (fun v10 ev10 => ?_)
    have hI_v10 : IM v10 := by
      rw [ev10]
      refine hI_w253.upo (by decide) ?_
      show (0 : Int) ≤ Int32.toInt (0 : Int32) ∧ Int32.toInt (0 : Int32) ≤ (100 : Int)
      have : (0 : Int32).toInt = 0 := (by decide)
      omega
    have := i_eq (show v10 30 0 6 = 0 by rw [ev10]; exact up3_s)
    have : (0 : Int32).toInt = 0 := (by decide)
    have := i_eq (show v10 30 0 8 = w253 30 0 8 by rw [ev10]; exact up3_j (by decide))
    have := i_eq (show v10 30 0 9 = w253 30 0 9 by rw [ev10]; exact up3_j (by decide))
    have := i_eq (show v10 30 0 11 = w253 30 0 11 by rw [ev10]; exact up3_j (by decide))
    have := i_eq (show v10 30 0 12 = w253 30 0 12 by rw [ev10]; exact up3_j (by decide))
    have := i_eq (show v10 30 0 17 = w253 30 0 17 by rw [ev10]; exact up3_j (by decide))
    have := i_eq (show v10 36 0 3 = w253 36 0 3 by rw [ev10]; exact up3_t (by decide))
    have := i_eq (show v10 37 0 0 = w253 37 0 0 by rw [ev10]; exact up3_t (by decide))
    have := i_eq (show v10 37 0 1 = w253 37 0 1 by rw [ev10]; exact up3_t (by decide))
    have := i_eq (show v10 37 0 2 = w253 37 0 2 by rw [ev10]; exact up3_t (by decide))
    have := i_eq (show v10 37 0 3 = w253 37 0 3 by rw [ev10]; exact up3_t (by decide))
    have := i_eq (show v10 37 0 4 = w253 37 0 4 by rw [ev10]; exact up3_t (by decide))
    have : ((v10 36 0 3).toInt = 0 ∧ (v10 36 0 4).toInt = 0) ∨ (0 < (v10 36 0 3).toInt ∧ 0 < (v10 36 0 4).toInt) := hI_v10.2.1
    refine ok_bind (k_X8_isWell v10 hI_v10  ) (fun r12 hr12 => ?_)
    replace hr12 : (0 : Int) ≤ Int32.toInt r12 ∧ Int32.toInt r12 ≤ (1 : Int) ∧ (0 ≤ Int32.toInt (v10 30 0 8) + Int32.toInt r12) ∧ (Int32.toInt (v10 30 0 8) ≤ 100 - 101 * Int32.toInt r12) := hr12
    obtain ⟨hr12_lo, hr12_hi, hr12_p0, hr12_p1⟩ := hr12
    have : (-1 : Int) ≤ (v10 30 0 8).toInt ∧ (v10 30 0 8).toInt ≤ (100 : Int) := hI_v10.1 30 0 8
    refine ok_ite _ (fun c14 => ?_) (fun c14 => ?_)
    · skip
      have ic14 := i_eq c14
      have : (0 : Int32).toInt = 0 := (by decide)
      refine ok_some ?_
      show IM v10
      have : (-1000100 : Int32).toInt = -1000100 := (by decide)
      have : (-1 : Int) ≤ (v10 30 0 8).toInt ∧ (v10 30 0 8).toInt ≤ (100 : Int) := hI_v10.1 30 0 8
      have := i_bd (v10 30 0 8)
      (first | have := sp_subx (-1000100 : Int32) (v10 30 0 8) (by omega) | obtain ⟨k2, hk2⟩ := sp_sub (-1000100 : Int32) (v10 30 0 8))
      exact hI_v10
    · skip
      have ic14 : Int32.toInt r12 = 1 := one_of hr12_lo hr12_hi c14
      have : (0 : Int32).toInt = 0 := (by decide)
      refine ok_bind (k_X8_copies_37_36 v10 hI_v10 0 0 (by have : (0 : Int32).toInt = 0 := (by decide); omega) (by have : (0 : Int32).toInt = 0 := (by decide); omega) (by omega)) (fun v17 hr16 => ?_)
      replace hr16 : IM v17 := hr16
      have hI_v17 := hr16
      clear hr16
      have : ((v17 36 0 3).toInt = 0 ∧ (v17 36 0 4).toInt = 0) ∨ (0 < (v17 36 0 3).toInt ∧ 0 < (v17 36 0 4).toInt) := hI_v17.2.1
      refine ok_let (fun v18 ev18 => ?_)
      have hI_v18 : IM v18 := by
        rw [ev18]
        refine hI_v17.upo (by decide) ?_
        show (0 : Int) ≤ Int32.toInt (0 : Int32) ∧ Int32.toInt (0 : Int32) ≤ (24 : Int)
        have : (0 : Int32).toInt = 0 := (by decide)
        omega
      have := i_eq (show v18 30 0 6 = v17 30 0 6 by rw [ev18]; exact up3_j (by decide))
      have := i_eq (show v18 30 0 8 = v17 30 0 8 by rw [ev18]; exact up3_j (by decide))
      have := i_eq (show v18 30 0 9 = v17 30 0 9 by rw [ev18]; exact up3_j (by decide))
      have := i_eq (show v18 30 0 11 = v17 30 0 11 by rw [ev18]; exact up3_j (by decide))
      have := i_eq (show v18 30 0 12 = v17 30 0 12 by rw [ev18]; exact up3_j (by decide))
      have := i_eq (show v18 30 0 17 = 0 by rw [ev18]; exact up3_s)
      have : (0 : Int32).toInt = 0 := (by decide)
      have := i_eq (show v18 36 0 3 = v17 36 0 3 by rw [ev18]; exact up3_t (by decide))
      have := i_eq (show v18 37 0 0 = v17 37 0 0 by rw [ev18]; exact up3_t (by decide))
      have := i_eq (show v18 37 0 1 = v17 37 0 1 by rw [ev18]; exact up3_t (by decide))
      have := i_eq (show v18 37 0 2 = v17 37 0 2 by rw [ev18]; exact up3_t (by decide))
      have := i_eq (show v18 37 0 3 = v17 37 0 3 by rw [ev18]; exact up3_t (by decide))
      have := i_eq (show v18 37 0 4 = v17 37 0 4 by rw [ev18]; exact up3_t (by decide))
      have : ((v18 36 0 3).toInt = 0 ∧ (v18 36 0 4).toInt = 0) ∨ (0 < (v18 36 0 3).toInt ∧ 0 < (v18 36 0 4).toInt) := hI_v18.2.1
      refine ok_some ?_
      show IM v18
      have : (0 : Int) ≤ (v18 36 0 3).toInt ∧ (v18 36 0 3).toInt ≤ (6 : Int) := hI_v18.1 36 0 3
      exact hI_v18
  have join237 : ∀ (w237 : Mm) (x1_237 : Int32), (IM w237) → (0 ≤ Int32.toInt (w237 30 0 8) ∨ (0 < Int32.toInt (w237 37 0 3) ∧ 0 < Int32.toInt (w237 37 0 4))) →  ok (if w237 30 0 11 = 0 then (Option.bind (g_X8_must w237 1) (fun v22 => Option.bind (some (up3 v22 30 0 6 0)) (fun v23 => Option.bind (g_X8_isWell v23) (fun r25 => if r25 = 0 then (some (((-1000100)) - (v23 30 0 8), v23)) else (Option.bind (g_X8_copies_37_36 v23 0 0) (fun v30 => Option.bind (some (up3 v30 30 0 17 0)) (fun v31 => some (v31 36 0 3, v31)))))))) else (Option.bind (g_X8_must w237 0) (fun v34 => Option.bind (some (up3 v34 30 0 6 0)) (fun v35 => Option.bind (g_X8_isWell v35) (fun r37 => if r37 = 0 then (some (((-1000100)) - (v35 30 0 8), v35)) else (Option.bind (g_X8_copies_37_36 v35 0 0) (fun v42 => Option.bind (some (up3 v42 30 0 17 0)) (fun v43 => some (v43 36 0 3, v43))))))))) (fun z => IM z.2) := by
    intro w237 x1_237 hI_w237 hv0_237
    have : ((w237 36 0 3).toInt = 0 ∧ (w237 36 0 4).toInt = 0) ∨ (0 < (w237 36 0 3).toInt ∧ 0 < (w237 36 0 4).toInt) := hI_w237.2.1
    have : (-1 : Int) ≤ (w237 30 0 8).toInt ∧ (w237 30 0 8).toInt ≤ (100 : Int) := hI_w237.1 30 0 8
    have : (0 : Int) ≤ (w237 37 0 3).toInt ∧ (w237 37 0 3).toInt ≤ (6 : Int) := hI_w237.1 37 0 3
    have : (0 : Int) ≤ (w237 37 0 4).toInt ∧ (w237 37 0 4).toInt ≤ (4 : Int) := hI_w237.1 37 0 4
    refine ok_ite _ (fun c44 => ?_) (fun c44 => ?_)
    · skip
      have ic44 := i_eq c44
      have : (0 : Int) ≤ (w237 30 0 11).toInt ∧ (w237 30 0 11).toInt ≤ (5 : Int) := hI_w237.1 30 0 11
      have : (0 : Int32).toInt = 0 := (by decide)
      refine ok_bind (k_X8_must w237 hI_w237 1 (by have : (1 : Int32).toInt = 1 := (by decide); omega)) (fun v47 hr46 => ?_)
      replace hr46 : IM v47 ∧ (Int32.toInt (v47 37 0 3) = Int32.toInt (w237 37 0 3)) ∧ (Int32.toInt (v47 37 0 4) = Int32.toInt (w237 37 0 4)) ∧ (Int32.toInt (w237 30 0 8) ≤ Int32.toInt (v47 30 0 8)) ∧ (0 ≤ Int32.toInt (v47 30 0 8) + Int32.toInt 1) ∧ (Int32.toInt 1 = 0 ∨ (Int32.toInt (v47 30 0 11) = Int32.toInt (w237 30 0 11) ∧ Int32.toInt (v47 30 0 12) = Int32.toInt (w237 30 0 12))) := hr46
      obtain ⟨hI_v47, hr46_p0, hr46_p1, hr46_p2, hr46_p3, hr46_p4⟩ := hr46
      have : ((v47 36 0 3).toInt = 0 ∧ (v47 36 0 4).toInt = 0) ∨ (0 < (v47 36 0 3).toInt ∧ 0 < (v47 36 0 4).toInt) := hI_v47.2.1
      have : (0 : Int) ≤ (w237 37 0 3).toInt ∧ (w237 37 0 3).toInt ≤ (6 : Int) := hI_w237.1 37 0 3
      have : (0 : Int) ≤ (w237 37 0 4).toInt ∧ (w237 37 0 4).toInt ≤ (4 : Int) := hI_w237.1 37 0 4
      have : (-1 : Int) ≤ (w237 30 0 8).toInt ∧ (w237 30 0 8).toInt ≤ (100 : Int) := hI_w237.1 30 0 8
      have : (0 : Int) ≤ (w237 30 0 11).toInt ∧ (w237 30 0 11).toInt ≤ (5 : Int) := hI_w237.1 30 0 11
      have : (1 : Int32).toInt = 1 := (by decide)
      exact join253 v47 x1_237 hI_v47 (by omega)
    · skip
      have ic44 := i_ne c44
      have : (0 : Int) ≤ (w237 30 0 11).toInt ∧ (w237 30 0 11).toInt ≤ (5 : Int) := hI_w237.1 30 0 11
      have : (0 : Int32).toInt = 0 := (by decide)
      refine ok_bind (k_X8_must w237 hI_w237 0 (by have : (0 : Int32).toInt = 0 := (by decide); omega)) (fun v50 hr49 => ?_)
      replace hr49 : IM v50 ∧ (Int32.toInt (v50 37 0 3) = Int32.toInt (w237 37 0 3)) ∧ (Int32.toInt (v50 37 0 4) = Int32.toInt (w237 37 0 4)) ∧ (Int32.toInt (w237 30 0 8) ≤ Int32.toInt (v50 30 0 8)) ∧ (0 ≤ Int32.toInt (v50 30 0 8) + Int32.toInt 0) ∧ (Int32.toInt 0 = 0 ∨ (Int32.toInt (v50 30 0 11) = Int32.toInt (w237 30 0 11) ∧ Int32.toInt (v50 30 0 12) = Int32.toInt (w237 30 0 12))) := hr49
      obtain ⟨hI_v50, hr49_p0, hr49_p1, hr49_p2, hr49_p3, hr49_p4⟩ := hr49
      have : ((v50 36 0 3).toInt = 0 ∧ (v50 36 0 4).toInt = 0) ∨ (0 < (v50 36 0 3).toInt ∧ 0 < (v50 36 0 4).toInt) := hI_v50.2.1
      have : (0 : Int) ≤ (w237 37 0 3).toInt ∧ (w237 37 0 3).toInt ≤ (6 : Int) := hI_w237.1 37 0 3
      have : (0 : Int) ≤ (w237 37 0 4).toInt ∧ (w237 37 0 4).toInt ≤ (4 : Int) := hI_w237.1 37 0 4
      have : (-1 : Int) ≤ (w237 30 0 8).toInt ∧ (w237 30 0 8).toInt ≤ (100 : Int) := hI_w237.1 30 0 8
      have : (0 : Int) ≤ (w237 30 0 11).toInt ∧ (w237 30 0 11).toInt ≤ (5 : Int) := hI_w237.1 30 0 11
      have : (0 : Int32).toInt = 0 := (by decide)
      exact join253 v50 x1_237 hI_v50 (by omega)
  have loop205 : ∀ (n205 : Nat) (w205 : Mm) (x1_205 : Int32), (IM w205) → (0 ≤ Int32.toInt (w205 30 0 8) ∨ 0 < Int32.toInt (w205 37 0 3)) → (0 ≤ Int32.toInt (w205 30 0 8) ∨ 0 < Int32.toInt (w205 37 0 4) ∨ (Int32.toInt (w205 30 0 11) = 1 ∧ (Int32.toInt (w205 30 0 12) = 107 ∨ Int32.toInt (w205 30 0 12) = 115 ∨ Int32.toInt (w205 30 0 12) = 101 ∨ Int32.toInt (w205 30 0 12) = 100 ∨ Int32.toInt (w205 30 0 12) = 103))) → (5 - Int32.toInt (w205 37 0 4) < (n205 : Int) ∨ (0 ≤ Int32.toInt (w205 30 0 8) ∧ 0 < (n205 : Int))) → ok (g_X8_gate_L205   n205 w205 x1_205) (fun z => IM z.2) := by
    intro n205
    induction n205 with
    | zero =>
      intro w205 x1_205 hI_w205 hv0_205 hv1_205 hm205
      exfalso
      have : (-1 : Int) ≤ (w205 30 0 8).toInt ∧ (w205 30 0 8).toInt ≤ (100 : Int) := hI_w205.1 30 0 8
      have : (0 : Int) ≤ (w205 37 0 3).toInt ∧ (w205 37 0 3).toInt ≤ (6 : Int) := hI_w205.1 37 0 3
      have : (0 : Int) ≤ (w205 37 0 4).toInt ∧ (w205 37 0 4).toInt ≤ (4 : Int) := hI_w205.1 37 0 4
      have : (0 : Int) ≤ (w205 30 0 11).toInt ∧ (w205 30 0 11).toInt ≤ (5 : Int) := hI_w205.1 30 0 11
      omega
    | succ n205 ih205 =>
      intro w205 x1_205 hI_w205 hv0_205 hv1_205 hm205
      show ok (b_X8_gate_L205  (g_X8_gate_L205   n205)  w205 x1_205) _
      unfold b_X8_gate_L205
      try rw [tc_0]
      try rw [tc_1]
      try rw [tc_2]
      try rw [tc_3]
      have : ((w205 36 0 3).toInt = 0 ∧ (w205 36 0 4).toInt = 0) ∨ (0 < (w205 36 0 3).toInt ∧ 0 < (w205 36 0 4).toInt) := hI_w205.2.1
      have : (-1 : Int) ≤ (w205 30 0 8).toInt ∧ (w205 30 0 8).toInt ≤ (100 : Int) := hI_w205.1 30 0 8
      have : (0 : Int) ≤ (w205 37 0 3).toInt ∧ (w205 37 0 3).toInt ≤ (6 : Int) := hI_w205.1 37 0 3
      have : (0 : Int) ≤ (w205 37 0 4).toInt ∧ (w205 37 0 4).toInt ≤ (4 : Int) := hI_w205.1 37 0 4
      have : (0 : Int) ≤ (w205 30 0 11).toInt ∧ (w205 30 0 11).toInt ≤ (5 : Int) := hI_w205.1 30 0 11
      refine ok_bind (k_X8_isWell w205 hI_w205  ) (fun r52 hr52 => ?_)
      replace hr52 : (0 : Int) ≤ Int32.toInt r52 ∧ Int32.toInt r52 ≤ (1 : Int) ∧ (0 ≤ Int32.toInt (w205 30 0 8) + Int32.toInt r52) ∧ (Int32.toInt (w205 30 0 8) ≤ 100 - 101 * Int32.toInt r52) := hr52
      obtain ⟨hr52_lo, hr52_hi, hr52_p0, hr52_p1⟩ := hr52
      have : (-1 : Int) ≤ (w205 30 0 8).toInt ∧ (w205 30 0 8).toInt ≤ (100 : Int) := hI_w205.1 30 0 8
      refine ok_ite _ (fun c54 => ?_) (fun c54 => ?_)
      · skip
        have ic54 := i_eq c54
        have : (0 : Int32).toInt = 0 := (by decide)
        exact join237 w205 x1_205 hI_w205 (by omega)
      · skip
        have ic54 : Int32.toInt r52 = 1 := one_of hr52_lo hr52_hi c54
        have : (0 : Int32).toInt = 0 := (by decide)
        refine ok_ite _ (fun c55 => ?_) (fun c55 => ?_)
        · skip
          have ic55 := i_eq c55
          have : (0 : Int) ≤ (w205 30 0 11).toInt ∧ (w205 30 0 11).toInt ≤ (5 : Int) := hI_w205.1 30 0 11
          have : (1 : Int32).toInt = 1 := (by decide)
          refine ok_bind (k_X8_kindOf w205 hI_w205 (w205 30 0 12) ) (fun r57 hr57 => ?_)
          replace hr57 : ((Int32.toInt r57 = 0 ∧ ¬ (Int32.toInt (w205 30 0 12) = 107 ∨ Int32.toInt (w205 30 0 12) = 115 ∨ Int32.toInt (w205 30 0 12) = 101 ∨ Int32.toInt (w205 30 0 12) = 100 ∨ Int32.toInt (w205 30 0 12) = 103)) ∨ (1 ≤ Int32.toInt r57 ∧ (Int32.toInt (w205 30 0 12) = 107 ∨ Int32.toInt (w205 30 0 12) = 115 ∨ Int32.toInt (w205 30 0 12) = 101 ∨ Int32.toInt (w205 30 0 12) = 100 ∨ Int32.toInt (w205 30 0 12) = 103))) := hr57
          have hr57_p0 := hr57
          clear hr57
          refine ok_ite _ (fun c59 => ?_) (fun c59 => ?_)
          · skip
            have ic59 := i_le c59
            have : (0 : Int32).toInt = 0 := (by decide)
            exact join237 w205 x1_205 hI_w205 (by omega)
          · skip
            have ic59 := i_nle c59
            have : (0 : Int32).toInt = 0 := (by decide)
            refine ok_bind (k_X8_readsGuard w205 hI_w205  ) (fun v62 hr61 => ?_)
            replace hr61 : IM v62 ∧ (Int32.toInt (v62 37 0 3) = Int32.toInt (w205 37 0 3)) ∧ ((Int32.toInt (w205 30 0 8) < 0 ∧ Int32.toInt (v62 37 0 4) = Int32.toInt (w205 37 0 4) + 1) ∨ 0 ≤ Int32.toInt (v62 30 0 8)) := hr61
            obtain ⟨hI_v62, hr61_p0, hr61_p1⟩ := hr61
            have : ((v62 36 0 3).toInt = 0 ∧ (v62 36 0 4).toInt = 0) ∨ (0 < (v62 36 0 3).toInt ∧ 0 < (v62 36 0 4).toInt) := hI_v62.2.1
            have : (0 : Int) ≤ (w205 37 0 3).toInt ∧ (w205 37 0 3).toInt ≤ (6 : Int) := hI_w205.1 37 0 3
            have : (-1 : Int) ≤ (w205 30 0 8).toInt ∧ (w205 30 0 8).toInt ≤ (100 : Int) := hI_w205.1 30 0 8
            have : (0 : Int) ≤ (w205 37 0 4).toInt ∧ (w205 37 0 4).toInt ≤ (4 : Int) := hI_w205.1 37 0 4
            exact ih205 v62 x1_205 hI_v62 (by omega) (by omega) (by omega)
        · skip
          have ic55 := i_ne c55
          have : (0 : Int) ≤ (w205 30 0 11).toInt ∧ (w205 30 0 11).toInt ≤ (5 : Int) := hI_w205.1 30 0 11
          have : (1 : Int32).toInt = 1 := (by decide)
          exact join237 w205 x1_205 hI_w205 (by omega)
  have join178 : ∀ (w178 : Mm) (x1_178 : Int32), (IM w178) → (0 ≤ Int32.toInt (w178 30 0 8) ∨ 0 < Int32.toInt (w178 37 0 3)) →  ok (if w178 30 0 11 = 1 then (Option.bind (g_X8_kindOf w178 (w178 30 0 12)) (fun r65 => if r65 ≤ 0 then (Option.bind (g_X8_must w178 0) (fun v70 => g_X8_gate_L205   2000 v70 x1_178)) else (Option.bind (g_X8_must w178 1) (fun v73 => g_X8_gate_L205   2000 v73 x1_178)))) else (Option.bind (g_X8_must w178 0) (fun v76 => g_X8_gate_L205   2000 v76 x1_178))) (fun z => IM z.2) := by
    intro w178 x1_178 hI_w178 hv0_178
    have : ((w178 36 0 3).toInt = 0 ∧ (w178 36 0 4).toInt = 0) ∨ (0 < (w178 36 0 3).toInt ∧ 0 < (w178 36 0 4).toInt) := hI_w178.2.1
    have : (-1 : Int) ≤ (w178 30 0 8).toInt ∧ (w178 30 0 8).toInt ≤ (100 : Int) := hI_w178.1 30 0 8
    have : (0 : Int) ≤ (w178 37 0 3).toInt ∧ (w178 37 0 3).toInt ≤ (6 : Int) := hI_w178.1 37 0 3
    refine ok_ite _ (fun c77 => ?_) (fun c77 => ?_)
    · skip
      have ic77 := i_eq c77
      have : (0 : Int) ≤ (w178 30 0 11).toInt ∧ (w178 30 0 11).toInt ≤ (5 : Int) := hI_w178.1 30 0 11
      have : (1 : Int32).toInt = 1 := (by decide)
      refine ok_bind (k_X8_kindOf w178 hI_w178 (w178 30 0 12) ) (fun r79 hr79 => ?_)
      replace hr79 : ((Int32.toInt r79 = 0 ∧ ¬ (Int32.toInt (w178 30 0 12) = 107 ∨ Int32.toInt (w178 30 0 12) = 115 ∨ Int32.toInt (w178 30 0 12) = 101 ∨ Int32.toInt (w178 30 0 12) = 100 ∨ Int32.toInt (w178 30 0 12) = 103)) ∨ (1 ≤ Int32.toInt r79 ∧ (Int32.toInt (w178 30 0 12) = 107 ∨ Int32.toInt (w178 30 0 12) = 115 ∨ Int32.toInt (w178 30 0 12) = 101 ∨ Int32.toInt (w178 30 0 12) = 100 ∨ Int32.toInt (w178 30 0 12) = 103))) := hr79
      have hr79_p0 := hr79
      clear hr79
      refine ok_ite _ (fun c81 => ?_) (fun c81 => ?_)
      · skip
        have ic81 := i_le c81
        have : (0 : Int32).toInt = 0 := (by decide)
        refine ok_bind (k_X8_must w178 hI_w178 0 (by have : (0 : Int32).toInt = 0 := (by decide); omega)) (fun v84 hr83 => ?_)
        replace hr83 : IM v84 ∧ (Int32.toInt (v84 37 0 3) = Int32.toInt (w178 37 0 3)) ∧ (Int32.toInt (v84 37 0 4) = Int32.toInt (w178 37 0 4)) ∧ (Int32.toInt (w178 30 0 8) ≤ Int32.toInt (v84 30 0 8)) ∧ (0 ≤ Int32.toInt (v84 30 0 8) + Int32.toInt 0) ∧ (Int32.toInt 0 = 0 ∨ (Int32.toInt (v84 30 0 11) = Int32.toInt (w178 30 0 11) ∧ Int32.toInt (v84 30 0 12) = Int32.toInt (w178 30 0 12))) := hr83
        obtain ⟨hI_v84, hr83_p0, hr83_p1, hr83_p2, hr83_p3, hr83_p4⟩ := hr83
        have : ((v84 36 0 3).toInt = 0 ∧ (v84 36 0 4).toInt = 0) ∨ (0 < (v84 36 0 3).toInt ∧ 0 < (v84 36 0 4).toInt) := hI_v84.2.1
        have : (0 : Int) ≤ (w178 37 0 3).toInt ∧ (w178 37 0 3).toInt ≤ (6 : Int) := hI_w178.1 37 0 3
        have : (0 : Int) ≤ (w178 37 0 4).toInt ∧ (w178 37 0 4).toInt ≤ (4 : Int) := hI_w178.1 37 0 4
        have : (-1 : Int) ≤ (w178 30 0 8).toInt ∧ (w178 30 0 8).toInt ≤ (100 : Int) := hI_w178.1 30 0 8
        have : (0 : Int) ≤ (w178 30 0 11).toInt ∧ (w178 30 0 11).toInt ≤ (5 : Int) := hI_w178.1 30 0 11
        have : (0 : Int32).toInt = 0 := (by decide)
        exact loop205 2000 v84 x1_178 hI_v84 (by omega) (by omega) (by omega)
      · skip
        have ic81 := i_nle c81
        have : (0 : Int32).toInt = 0 := (by decide)
        refine ok_bind (k_X8_must w178 hI_w178 1 (by have : (1 : Int32).toInt = 1 := (by decide); omega)) (fun v87 hr86 => ?_)
        replace hr86 : IM v87 ∧ (Int32.toInt (v87 37 0 3) = Int32.toInt (w178 37 0 3)) ∧ (Int32.toInt (v87 37 0 4) = Int32.toInt (w178 37 0 4)) ∧ (Int32.toInt (w178 30 0 8) ≤ Int32.toInt (v87 30 0 8)) ∧ (0 ≤ Int32.toInt (v87 30 0 8) + Int32.toInt 1) ∧ (Int32.toInt 1 = 0 ∨ (Int32.toInt (v87 30 0 11) = Int32.toInt (w178 30 0 11) ∧ Int32.toInt (v87 30 0 12) = Int32.toInt (w178 30 0 12))) := hr86
        obtain ⟨hI_v87, hr86_p0, hr86_p1, hr86_p2, hr86_p3, hr86_p4⟩ := hr86
        have : ((v87 36 0 3).toInt = 0 ∧ (v87 36 0 4).toInt = 0) ∨ (0 < (v87 36 0 3).toInt ∧ 0 < (v87 36 0 4).toInt) := hI_v87.2.1
        have : (0 : Int) ≤ (w178 37 0 3).toInt ∧ (w178 37 0 3).toInt ≤ (6 : Int) := hI_w178.1 37 0 3
        have : (0 : Int) ≤ (w178 37 0 4).toInt ∧ (w178 37 0 4).toInt ≤ (4 : Int) := hI_w178.1 37 0 4
        have : (-1 : Int) ≤ (w178 30 0 8).toInt ∧ (w178 30 0 8).toInt ≤ (100 : Int) := hI_w178.1 30 0 8
        have : (0 : Int) ≤ (w178 30 0 11).toInt ∧ (w178 30 0 11).toInt ≤ (5 : Int) := hI_w178.1 30 0 11
        have : (1 : Int32).toInt = 1 := (by decide)
        exact loop205 2000 v87 x1_178 hI_v87 (by omega) (by omega) (by omega)
    · skip
      have ic77 := i_ne c77
      have : (0 : Int) ≤ (w178 30 0 11).toInt ∧ (w178 30 0 11).toInt ≤ (5 : Int) := hI_w178.1 30 0 11
      have : (1 : Int32).toInt = 1 := (by decide)
      refine ok_bind (k_X8_must w178 hI_w178 0 (by have : (0 : Int32).toInt = 0 := (by decide); omega)) (fun v90 hr89 => ?_)
      replace hr89 : IM v90 ∧ (Int32.toInt (v90 37 0 3) = Int32.toInt (w178 37 0 3)) ∧ (Int32.toInt (v90 37 0 4) = Int32.toInt (w178 37 0 4)) ∧ (Int32.toInt (w178 30 0 8) ≤ Int32.toInt (v90 30 0 8)) ∧ (0 ≤ Int32.toInt (v90 30 0 8) + Int32.toInt 0) ∧ (Int32.toInt 0 = 0 ∨ (Int32.toInt (v90 30 0 11) = Int32.toInt (w178 30 0 11) ∧ Int32.toInt (v90 30 0 12) = Int32.toInt (w178 30 0 12))) := hr89
      obtain ⟨hI_v90, hr89_p0, hr89_p1, hr89_p2, hr89_p3, hr89_p4⟩ := hr89
      have : ((v90 36 0 3).toInt = 0 ∧ (v90 36 0 4).toInt = 0) ∨ (0 < (v90 36 0 3).toInt ∧ 0 < (v90 36 0 4).toInt) := hI_v90.2.1
      have : (0 : Int) ≤ (w178 37 0 3).toInt ∧ (w178 37 0 3).toInt ≤ (6 : Int) := hI_w178.1 37 0 3
      have : (0 : Int) ≤ (w178 37 0 4).toInt ∧ (w178 37 0 4).toInt ≤ (4 : Int) := hI_w178.1 37 0 4
      have : (-1 : Int) ≤ (w178 30 0 8).toInt ∧ (w178 30 0 8).toInt ≤ (100 : Int) := hI_w178.1 30 0 8
      have : (0 : Int) ≤ (w178 30 0 11).toInt ∧ (w178 30 0 11).toInt ≤ (5 : Int) := hI_w178.1 30 0 11
      have : (0 : Int32).toInt = 0 := (by decide)
      exact loop205 2000 v90 x1_178 hI_v90 (by omega) (by omega) (by omega)
  have loop147 : ∀ (n147 : Nat) (w147 : Mm) (x1_147 : Int32), (IM w147) → (0 ≤ Int32.toInt (w147 30 0 8) ∨ 0 < Int32.toInt (w147 37 0 3) ∨ (Int32.toInt (w147 30 0 11) = 1 ∧ Int32.toInt (w147 30 0 12) = 119)) → (7 - Int32.toInt (w147 37 0 3) < (n147 : Int) ∨ (0 ≤ Int32.toInt (w147 30 0 8) ∧ 0 < (n147 : Int))) → ok (g_X8_gate_L147   n147 w147 x1_147) (fun z => IM z.2) := by
    intro n147
    induction n147 with
    | zero =>
      intro w147 x1_147 hI_w147 hv0_147 hm147
      exfalso
      have : (-1 : Int) ≤ (w147 30 0 8).toInt ∧ (w147 30 0 8).toInt ≤ (100 : Int) := hI_w147.1 30 0 8
      have : (0 : Int) ≤ (w147 37 0 3).toInt ∧ (w147 37 0 3).toInt ≤ (6 : Int) := hI_w147.1 37 0 3
      have : (0 : Int) ≤ (w147 30 0 11).toInt ∧ (w147 30 0 11).toInt ≤ (5 : Int) := hI_w147.1 30 0 11
      omega
    | succ n147 ih147 =>
      intro w147 x1_147 hI_w147 hv0_147 hm147
      show ok (b_X8_gate_L147  (g_X8_gate_L147   n147)  w147 x1_147) _
      unfold b_X8_gate_L147
      try rw [tc_0]
      try rw [tc_1]
      try rw [tc_2]
      try rw [tc_3]
      have : ((w147 36 0 3).toInt = 0 ∧ (w147 36 0 4).toInt = 0) ∨ (0 < (w147 36 0 3).toInt ∧ 0 < (w147 36 0 4).toInt) := hI_w147.2.1
      have : (-1 : Int) ≤ (w147 30 0 8).toInt ∧ (w147 30 0 8).toInt ≤ (100 : Int) := hI_w147.1 30 0 8
      have : (0 : Int) ≤ (w147 37 0 3).toInt ∧ (w147 37 0 3).toInt ≤ (6 : Int) := hI_w147.1 37 0 3
      have : (0 : Int) ≤ (w147 30 0 11).toInt ∧ (w147 30 0 11).toInt ≤ (5 : Int) := hI_w147.1 30 0 11
      refine ok_bind (k_X8_isWell w147 hI_w147  ) (fun r92 hr92 => ?_)
      replace hr92 : (0 : Int) ≤ Int32.toInt r92 ∧ Int32.toInt r92 ≤ (1 : Int) ∧ (0 ≤ Int32.toInt (w147 30 0 8) + Int32.toInt r92) ∧ (Int32.toInt (w147 30 0 8) ≤ 100 - 101 * Int32.toInt r92) := hr92
      obtain ⟨hr92_lo, hr92_hi, hr92_p0, hr92_p1⟩ := hr92
      have : (-1 : Int) ≤ (w147 30 0 8).toInt ∧ (w147 30 0 8).toInt ≤ (100 : Int) := hI_w147.1 30 0 8
      refine ok_ite _ (fun c94 => ?_) (fun c94 => ?_)
      · skip
        have ic94 := i_eq c94
        have : (0 : Int32).toInt = 0 := (by decide)
        exact join178 w147 x1_147 hI_w147 (by omega)
      · skip
        have ic94 : Int32.toInt r92 = 1 := one_of hr92_lo hr92_hi c94
        have : (0 : Int32).toInt = 0 := (by decide)
        refine ok_ite _ (fun c95 => ?_) (fun c95 => ?_)
        · skip
          have ic95 := i_eq c95
          have : (0 : Int) ≤ (w147 30 0 11).toInt ∧ (w147 30 0 11).toInt ≤ (5 : Int) := hI_w147.1 30 0 11
          have : (1 : Int32).toInt = 1 := (by decide)
          refine ok_ite _ (fun c96 => ?_) (fun c96 => ?_)
          · skip
            have ic96 := i_eq c96
            have : (119 : Int32).toInt = 119 := (by decide)
            refine ok_bind (k_X8_readsWord w147 hI_w147  ) (fun v99 hr98 => ?_)
            replace hr98 : IM v99 ∧ (Int32.toInt (v99 37 0 4) = Int32.toInt (w147 37 0 4)) ∧ ((Int32.toInt (w147 30 0 8) < 0 ∧ Int32.toInt (v99 37 0 3) = Int32.toInt (w147 37 0 3) + 1) ∨ 0 ≤ Int32.toInt (v99 30 0 8)) := hr98
            obtain ⟨hI_v99, hr98_p0, hr98_p1⟩ := hr98
            have : ((v99 36 0 3).toInt = 0 ∧ (v99 36 0 4).toInt = 0) ∨ (0 < (v99 36 0 3).toInt ∧ 0 < (v99 36 0 4).toInt) := hI_v99.2.1
            have : (0 : Int) ≤ (w147 37 0 4).toInt ∧ (w147 37 0 4).toInt ≤ (4 : Int) := hI_w147.1 37 0 4
            have : (-1 : Int) ≤ (w147 30 0 8).toInt ∧ (w147 30 0 8).toInt ≤ (100 : Int) := hI_w147.1 30 0 8
            have : (0 : Int) ≤ (w147 37 0 3).toInt ∧ (w147 37 0 3).toInt ≤ (6 : Int) := hI_w147.1 37 0 3
            exact ih147 v99 x1_147 hI_v99 (by omega) (by omega)
          · skip
            have ic96 := i_ne c96
            have : (119 : Int32).toInt = 119 := (by decide)
            exact join178 w147 x1_147 hI_w147 (by omega)
        · skip
          have ic95 := i_ne c95
          have : (0 : Int) ≤ (w147 30 0 11).toInt ∧ (w147 30 0 11).toInt ≤ (5 : Int) := hI_w147.1 30 0 11
          have : (1 : Int32).toInt = 1 := (by decide)
          exact join178 w147 x1_147 hI_w147 (by omega)
  have join121 : ∀ (w121 : Mm) (x1_121 : Int32), (IM w121) →  ok (if w121 30 0 11 = 1 then (if w121 30 0 12 = 119 then (Option.bind (g_X8_must w121 1) (fun v104 => g_X8_gate_L147   2000 v104 x1_121)) else (Option.bind (g_X8_must w121 0) (fun v107 => g_X8_gate_L147   2000 v107 x1_121))) else (Option.bind (g_X8_must w121 0) (fun v110 => g_X8_gate_L147   2000 v110 x1_121))) (fun z => IM z.2) := by
    intro w121 x1_121 hI_w121
    have : ((w121 36 0 3).toInt = 0 ∧ (w121 36 0 4).toInt = 0) ∨ (0 < (w121 36 0 3).toInt ∧ 0 < (w121 36 0 4).toInt) := hI_w121.2.1
    refine ok_ite _ (fun c111 => ?_) (fun c111 => ?_)
    · skip
      have ic111 := i_eq c111
      have : (0 : Int) ≤ (w121 30 0 11).toInt ∧ (w121 30 0 11).toInt ≤ (5 : Int) := hI_w121.1 30 0 11
      have : (1 : Int32).toInt = 1 := (by decide)
      refine ok_ite _ (fun c112 => ?_) (fun c112 => ?_)
      · skip
        have ic112 := i_eq c112
        have : (119 : Int32).toInt = 119 := (by decide)
        refine ok_bind (k_X8_must w121 hI_w121 1 (by have : (1 : Int32).toInt = 1 := (by decide); omega)) (fun v115 hr114 => ?_)
        replace hr114 : IM v115 ∧ (Int32.toInt (v115 37 0 3) = Int32.toInt (w121 37 0 3)) ∧ (Int32.toInt (v115 37 0 4) = Int32.toInt (w121 37 0 4)) ∧ (Int32.toInt (w121 30 0 8) ≤ Int32.toInt (v115 30 0 8)) ∧ (0 ≤ Int32.toInt (v115 30 0 8) + Int32.toInt 1) ∧ (Int32.toInt 1 = 0 ∨ (Int32.toInt (v115 30 0 11) = Int32.toInt (w121 30 0 11) ∧ Int32.toInt (v115 30 0 12) = Int32.toInt (w121 30 0 12))) := hr114
        obtain ⟨hI_v115, hr114_p0, hr114_p1, hr114_p2, hr114_p3, hr114_p4⟩ := hr114
        have : ((v115 36 0 3).toInt = 0 ∧ (v115 36 0 4).toInt = 0) ∨ (0 < (v115 36 0 3).toInt ∧ 0 < (v115 36 0 4).toInt) := hI_v115.2.1
        have : (0 : Int) ≤ (w121 37 0 3).toInt ∧ (w121 37 0 3).toInt ≤ (6 : Int) := hI_w121.1 37 0 3
        have : (0 : Int) ≤ (w121 37 0 4).toInt ∧ (w121 37 0 4).toInt ≤ (4 : Int) := hI_w121.1 37 0 4
        have : (-1 : Int) ≤ (w121 30 0 8).toInt ∧ (w121 30 0 8).toInt ≤ (100 : Int) := hI_w121.1 30 0 8
        have : (0 : Int) ≤ (w121 30 0 11).toInt ∧ (w121 30 0 11).toInt ≤ (5 : Int) := hI_w121.1 30 0 11
        have : (1 : Int32).toInt = 1 := (by decide)
        exact loop147 2000 v115 x1_121 hI_v115 (by omega) (by omega)
      · skip
        have ic112 := i_ne c112
        have : (119 : Int32).toInt = 119 := (by decide)
        refine ok_bind (k_X8_must w121 hI_w121 0 (by have : (0 : Int32).toInt = 0 := (by decide); omega)) (fun v118 hr117 => ?_)
        replace hr117 : IM v118 ∧ (Int32.toInt (v118 37 0 3) = Int32.toInt (w121 37 0 3)) ∧ (Int32.toInt (v118 37 0 4) = Int32.toInt (w121 37 0 4)) ∧ (Int32.toInt (w121 30 0 8) ≤ Int32.toInt (v118 30 0 8)) ∧ (0 ≤ Int32.toInt (v118 30 0 8) + Int32.toInt 0) ∧ (Int32.toInt 0 = 0 ∨ (Int32.toInt (v118 30 0 11) = Int32.toInt (w121 30 0 11) ∧ Int32.toInt (v118 30 0 12) = Int32.toInt (w121 30 0 12))) := hr117
        obtain ⟨hI_v118, hr117_p0, hr117_p1, hr117_p2, hr117_p3, hr117_p4⟩ := hr117
        have : ((v118 36 0 3).toInt = 0 ∧ (v118 36 0 4).toInt = 0) ∨ (0 < (v118 36 0 3).toInt ∧ 0 < (v118 36 0 4).toInt) := hI_v118.2.1
        have : (0 : Int) ≤ (w121 37 0 3).toInt ∧ (w121 37 0 3).toInt ≤ (6 : Int) := hI_w121.1 37 0 3
        have : (0 : Int) ≤ (w121 37 0 4).toInt ∧ (w121 37 0 4).toInt ≤ (4 : Int) := hI_w121.1 37 0 4
        have : (-1 : Int) ≤ (w121 30 0 8).toInt ∧ (w121 30 0 8).toInt ≤ (100 : Int) := hI_w121.1 30 0 8
        have : (0 : Int) ≤ (w121 30 0 11).toInt ∧ (w121 30 0 11).toInt ≤ (5 : Int) := hI_w121.1 30 0 11
        have : (0 : Int32).toInt = 0 := (by decide)
        exact loop147 2000 v118 x1_121 hI_v118 (by omega) (by omega)
    · skip
      have ic111 := i_ne c111
      have : (0 : Int) ≤ (w121 30 0 11).toInt ∧ (w121 30 0 11).toInt ≤ (5 : Int) := hI_w121.1 30 0 11
      have : (1 : Int32).toInt = 1 := (by decide)
      refine ok_bind (k_X8_must w121 hI_w121 0 (by have : (0 : Int32).toInt = 0 := (by decide); omega)) (fun v121 hr120 => ?_)
      replace hr120 : IM v121 ∧ (Int32.toInt (v121 37 0 3) = Int32.toInt (w121 37 0 3)) ∧ (Int32.toInt (v121 37 0 4) = Int32.toInt (w121 37 0 4)) ∧ (Int32.toInt (w121 30 0 8) ≤ Int32.toInt (v121 30 0 8)) ∧ (0 ≤ Int32.toInt (v121 30 0 8) + Int32.toInt 0) ∧ (Int32.toInt 0 = 0 ∨ (Int32.toInt (v121 30 0 11) = Int32.toInt (w121 30 0 11) ∧ Int32.toInt (v121 30 0 12) = Int32.toInt (w121 30 0 12))) := hr120
      obtain ⟨hI_v121, hr120_p0, hr120_p1, hr120_p2, hr120_p3, hr120_p4⟩ := hr120
      have : ((v121 36 0 3).toInt = 0 ∧ (v121 36 0 4).toInt = 0) ∨ (0 < (v121 36 0 3).toInt ∧ 0 < (v121 36 0 4).toInt) := hI_v121.2.1
      have : (0 : Int) ≤ (w121 37 0 3).toInt ∧ (w121 37 0 3).toInt ≤ (6 : Int) := hI_w121.1 37 0 3
      have : (0 : Int) ≤ (w121 37 0 4).toInt ∧ (w121 37 0 4).toInt ≤ (4 : Int) := hI_w121.1 37 0 4
      have : (-1 : Int) ≤ (w121 30 0 8).toInt ∧ (w121 30 0 8).toInt ≤ (100 : Int) := hI_w121.1 30 0 8
      have : (0 : Int) ≤ (w121 30 0 11).toInt ∧ (w121 30 0 11).toInt ≤ (5 : Int) := hI_w121.1 30 0 11
      have : (0 : Int32).toInt = 0 := (by decide)
      exact loop147 2000 v121 x1_121 hI_v121 (by omega) (by omega)
  have join63 : ∀ (w63 : Mm) (x1_63 : Int32), (IM w63) →  ok (kb2 (g_X8_figure w63 0 9) (fun r123 v124 => Option.bind (some (up3 v124 37 0 0 r123)) (fun v125 => kb2 (g_X8_follows v125 0 9) (fun r127 v128 => Option.bind (some (up3 v128 37 0 1 r127)) (fun v129 => kb2 (g_X8_follows v129 0 6) (fun r131 v132 => Option.bind (some (up3 v132 37 0 2 r131)) (fun v133 => if v133 30 0 11 = 4 then (kb2 (g_X8_takes v133 1 1) (fun r136 v137 => if v137 30 0 11 = 1 then (if v137 30 0 12 = 119 then (Option.bind (g_X8_must v137 1) (fun v142 => g_X8_gate_L147   2000 v142 x1_63)) else (Option.bind (g_X8_must v137 0) (fun v145 => g_X8_gate_L147   2000 v145 x1_63))) else (Option.bind (g_X8_must v137 0) (fun v148 => g_X8_gate_L147   2000 v148 x1_63)))) else (kb2 (g_X8_takes v133 0 1) (fun r150 v151 => if v151 30 0 11 = 1 then (if v151 30 0 12 = 119 then (Option.bind (g_X8_must v151 1) (fun v156 => g_X8_gate_L147   2000 v156 x1_63)) else (Option.bind (g_X8_must v151 0) (fun v159 => g_X8_gate_L147   2000 v159 x1_63))) else (Option.bind (g_X8_must v151 0) (fun v162 => g_X8_gate_L147   2000 v162 x1_63))))))))))) (fun z => IM z.2) := by
    intro w63 x1_63 hI_w63
    have : ((w63 36 0 3).toInt = 0 ∧ (w63 36 0 4).toInt = 0) ∨ (0 < (w63 36 0 3).toInt ∧ 0 < (w63 36 0 4).toInt) := hI_w63.2.1
    refine ok_kb2 (k_X8_figure w63 hI_w63 0 9 (by have : (0 : Int32).toInt = 0 := (by decide); omega) (by have : (9 : Int32).toInt = 9 := (by decide); omega)) (fun r164 v165 hr164 => ?_)
    replace hr164 : IM v165 ∧ (0 : Int) ≤ Int32.toInt r164 ∧ Int32.toInt r164 ≤ (9 : Int) ∧ (Int32.toInt (v165 37 0 3) = Int32.toInt (w63 37 0 3)) ∧ (Int32.toInt (v165 37 0 4) = Int32.toInt (w63 37 0 4)) ∧ (Int32.toInt (w63 30 0 8) ≤ Int32.toInt (v165 30 0 8)) ∧ (Int32.toInt r164 ≤ Int32.toInt 9) := hr164
    obtain ⟨hI_v165, hr164_lo, hr164_hi, hr164_p0, hr164_p1, hr164_p2, hr164_p3⟩ := hr164
    have : ((v165 36 0 3).toInt = 0 ∧ (v165 36 0 4).toInt = 0) ∨ (0 < (v165 36 0 3).toInt ∧ 0 < (v165 36 0 4).toInt) := hI_v165.2.1
    have : (0 : Int) ≤ (w63 37 0 3).toInt ∧ (w63 37 0 3).toInt ≤ (6 : Int) := hI_w63.1 37 0 3
    have : (0 : Int) ≤ (w63 37 0 4).toInt ∧ (w63 37 0 4).toInt ≤ (4 : Int) := hI_w63.1 37 0 4
    have : (-1 : Int) ≤ (w63 30 0 8).toInt ∧ (w63 30 0 8).toInt ≤ (100 : Int) := hI_w63.1 30 0 8
    have : (0 : Int32).toInt = 0 := (by decide)
    have : (9 : Int32).toInt = 9 := (by decide)
    refine ok_let (fun v166 ev166 => ?_)
    have hI_v166 : IM v166 := by
      rw [ev166]
      refine hI_v165.upo (by decide) ?_
      show (0 : Int) ≤ Int32.toInt r164 ∧ Int32.toInt r164 ≤ (9 : Int)
      omega
    have := i_eq (show v166 30 0 6 = v165 30 0 6 by rw [ev166]; exact up3_t (by decide))
    have := i_eq (show v166 30 0 8 = v165 30 0 8 by rw [ev166]; exact up3_t (by decide))
    have := i_eq (show v166 30 0 9 = v165 30 0 9 by rw [ev166]; exact up3_t (by decide))
    have := i_eq (show v166 30 0 11 = v165 30 0 11 by rw [ev166]; exact up3_t (by decide))
    have := i_eq (show v166 30 0 12 = v165 30 0 12 by rw [ev166]; exact up3_t (by decide))
    have := i_eq (show v166 30 0 17 = v165 30 0 17 by rw [ev166]; exact up3_t (by decide))
    have := i_eq (show v166 36 0 3 = v165 36 0 3 by rw [ev166]; exact up3_t (by decide))
    have := i_eq (show v166 37 0 0 = r164 by rw [ev166]; exact up3_s)
    have := i_eq (show v166 37 0 1 = v165 37 0 1 by rw [ev166]; exact up3_j (by decide))
    have := i_eq (show v166 37 0 2 = v165 37 0 2 by rw [ev166]; exact up3_j (by decide))
    have := i_eq (show v166 37 0 3 = v165 37 0 3 by rw [ev166]; exact up3_j (by decide))
    have := i_eq (show v166 37 0 4 = v165 37 0 4 by rw [ev166]; exact up3_j (by decide))
    have : ((v166 36 0 3).toInt = 0 ∧ (v166 36 0 4).toInt = 0) ∨ (0 < (v166 36 0 3).toInt ∧ 0 < (v166 36 0 4).toInt) := hI_v166.2.1
    refine ok_kb2 (k_X8_follows v166 hI_v166 0 9 (by have : (0 : Int32).toInt = 0 := (by decide); omega) (by have : (9 : Int32).toInt = 9 := (by decide); omega)) (fun r168 v169 hr168 => ?_)
    replace hr168 : IM v169 ∧ (0 : Int) ≤ Int32.toInt r168 ∧ Int32.toInt r168 ≤ (9 : Int) ∧ (Int32.toInt (v169 37 0 3) = Int32.toInt (v166 37 0 3)) ∧ (Int32.toInt (v169 37 0 4) = Int32.toInt (v166 37 0 4)) ∧ (Int32.toInt (v166 30 0 8) ≤ Int32.toInt (v169 30 0 8)) ∧ (Int32.toInt r168 ≤ Int32.toInt 9) := hr168
    obtain ⟨hI_v169, hr168_lo, hr168_hi, hr168_p0, hr168_p1, hr168_p2, hr168_p3⟩ := hr168
    have : ((v169 36 0 3).toInt = 0 ∧ (v169 36 0 4).toInt = 0) ∨ (0 < (v169 36 0 3).toInt ∧ 0 < (v169 36 0 4).toInt) := hI_v169.2.1
    have : (0 : Int) ≤ (v166 37 0 3).toInt ∧ (v166 37 0 3).toInt ≤ (6 : Int) := hI_v166.1 37 0 3
    have : (0 : Int) ≤ (v166 37 0 4).toInt ∧ (v166 37 0 4).toInt ≤ (4 : Int) := hI_v166.1 37 0 4
    have : (-1 : Int) ≤ (v166 30 0 8).toInt ∧ (v166 30 0 8).toInt ≤ (100 : Int) := hI_v166.1 30 0 8
    have : (0 : Int32).toInt = 0 := (by decide)
    have : (9 : Int32).toInt = 9 := (by decide)
    refine ok_let (fun v170 ev170 => ?_)
    have hI_v170 : IM v170 := by
      rw [ev170]
      refine hI_v169.upo (by decide) ?_
      show (0 : Int) ≤ Int32.toInt r168 ∧ Int32.toInt r168 ≤ (9 : Int)
      omega
    have := i_eq (show v170 30 0 6 = v169 30 0 6 by rw [ev170]; exact up3_t (by decide))
    have := i_eq (show v170 30 0 8 = v169 30 0 8 by rw [ev170]; exact up3_t (by decide))
    have := i_eq (show v170 30 0 9 = v169 30 0 9 by rw [ev170]; exact up3_t (by decide))
    have := i_eq (show v170 30 0 11 = v169 30 0 11 by rw [ev170]; exact up3_t (by decide))
    have := i_eq (show v170 30 0 12 = v169 30 0 12 by rw [ev170]; exact up3_t (by decide))
    have := i_eq (show v170 30 0 17 = v169 30 0 17 by rw [ev170]; exact up3_t (by decide))
    have := i_eq (show v170 36 0 3 = v169 36 0 3 by rw [ev170]; exact up3_t (by decide))
    have := i_eq (show v170 37 0 0 = v169 37 0 0 by rw [ev170]; exact up3_j (by decide))
    have := i_eq (show v170 37 0 1 = r168 by rw [ev170]; exact up3_s)
    have := i_eq (show v170 37 0 2 = v169 37 0 2 by rw [ev170]; exact up3_j (by decide))
    have := i_eq (show v170 37 0 3 = v169 37 0 3 by rw [ev170]; exact up3_j (by decide))
    have := i_eq (show v170 37 0 4 = v169 37 0 4 by rw [ev170]; exact up3_j (by decide))
    have : ((v170 36 0 3).toInt = 0 ∧ (v170 36 0 4).toInt = 0) ∨ (0 < (v170 36 0 3).toInt ∧ 0 < (v170 36 0 4).toInt) := hI_v170.2.1
    refine ok_kb2 (k_X8_follows v170 hI_v170 0 6 (by have : (0 : Int32).toInt = 0 := (by decide); omega) (by have : (6 : Int32).toInt = 6 := (by decide); omega)) (fun r172 v173 hr172 => ?_)
    replace hr172 : IM v173 ∧ (0 : Int) ≤ Int32.toInt r172 ∧ Int32.toInt r172 ≤ (9 : Int) ∧ (Int32.toInt (v173 37 0 3) = Int32.toInt (v170 37 0 3)) ∧ (Int32.toInt (v173 37 0 4) = Int32.toInt (v170 37 0 4)) ∧ (Int32.toInt (v170 30 0 8) ≤ Int32.toInt (v173 30 0 8)) ∧ (Int32.toInt r172 ≤ Int32.toInt 6) := hr172
    obtain ⟨hI_v173, hr172_lo, hr172_hi, hr172_p0, hr172_p1, hr172_p2, hr172_p3⟩ := hr172
    have : ((v173 36 0 3).toInt = 0 ∧ (v173 36 0 4).toInt = 0) ∨ (0 < (v173 36 0 3).toInt ∧ 0 < (v173 36 0 4).toInt) := hI_v173.2.1
    have : (0 : Int) ≤ (v170 37 0 3).toInt ∧ (v170 37 0 3).toInt ≤ (6 : Int) := hI_v170.1 37 0 3
    have : (0 : Int) ≤ (v170 37 0 4).toInt ∧ (v170 37 0 4).toInt ≤ (4 : Int) := hI_v170.1 37 0 4
    have : (-1 : Int) ≤ (v170 30 0 8).toInt ∧ (v170 30 0 8).toInt ≤ (100 : Int) := hI_v170.1 30 0 8
    have : (0 : Int32).toInt = 0 := (by decide)
    have : (6 : Int32).toInt = 6 := (by decide)
    refine ok_let (fun v174 ev174 => ?_)
    have hI_v174 : IM v174 := by
      rw [ev174]
      refine hI_v173.upo (by decide) ?_
      show (0 : Int) ≤ Int32.toInt r172 ∧ Int32.toInt r172 ≤ (6 : Int)
      omega
    have := i_eq (show v174 30 0 6 = v173 30 0 6 by rw [ev174]; exact up3_t (by decide))
    have := i_eq (show v174 30 0 8 = v173 30 0 8 by rw [ev174]; exact up3_t (by decide))
    have := i_eq (show v174 30 0 9 = v173 30 0 9 by rw [ev174]; exact up3_t (by decide))
    have := i_eq (show v174 30 0 11 = v173 30 0 11 by rw [ev174]; exact up3_t (by decide))
    have := i_eq (show v174 30 0 12 = v173 30 0 12 by rw [ev174]; exact up3_t (by decide))
    have := i_eq (show v174 30 0 17 = v173 30 0 17 by rw [ev174]; exact up3_t (by decide))
    have := i_eq (show v174 36 0 3 = v173 36 0 3 by rw [ev174]; exact up3_t (by decide))
    have := i_eq (show v174 37 0 0 = v173 37 0 0 by rw [ev174]; exact up3_j (by decide))
    have := i_eq (show v174 37 0 1 = v173 37 0 1 by rw [ev174]; exact up3_j (by decide))
    have := i_eq (show v174 37 0 2 = r172 by rw [ev174]; exact up3_s)
    have := i_eq (show v174 37 0 3 = v173 37 0 3 by rw [ev174]; exact up3_j (by decide))
    have := i_eq (show v174 37 0 4 = v173 37 0 4 by rw [ev174]; exact up3_j (by decide))
    have : ((v174 36 0 3).toInt = 0 ∧ (v174 36 0 4).toInt = 0) ∨ (0 < (v174 36 0 3).toInt ∧ 0 < (v174 36 0 4).toInt) := hI_v174.2.1
    refine ok_ite _ (fun c175 => ?_) (fun c175 => ?_)
    · skip
      have ic175 := i_eq c175
      have : (0 : Int) ≤ (v174 30 0 11).toInt ∧ (v174 30 0 11).toInt ≤ (5 : Int) := hI_v174.1 30 0 11
      have : (4 : Int32).toInt = 4 := (by decide)
      refine ok_kb2 (k_X8_takes v174 hI_v174 1 1 (by have : (1 : Int32).toInt = 1 := (by decide); omega)) (fun r177 v178 hr177 => ?_)
      replace hr177 : IM v178 ∧ (Int32.toInt (v178 37 0 3) = Int32.toInt (v174 37 0 3)) ∧ (Int32.toInt (v178 37 0 4) = Int32.toInt (v174 37 0 4)) ∧ (Int32.toInt (v174 30 0 8) ≤ Int32.toInt (v178 30 0 8)) ∧ (0 ≤ Int32.toInt (v178 30 0 8) + Int32.toInt 1) := hr177
      obtain ⟨hI_v178, hr177_p0, hr177_p1, hr177_p2, hr177_p3⟩ := hr177
      have : ((v178 36 0 3).toInt = 0 ∧ (v178 36 0 4).toInt = 0) ∨ (0 < (v178 36 0 3).toInt ∧ 0 < (v178 36 0 4).toInt) := hI_v178.2.1
      have : (0 : Int) ≤ (v174 37 0 3).toInt ∧ (v174 37 0 3).toInt ≤ (6 : Int) := hI_v174.1 37 0 3
      have : (0 : Int) ≤ (v174 37 0 4).toInt ∧ (v174 37 0 4).toInt ≤ (4 : Int) := hI_v174.1 37 0 4
      have : (-1 : Int) ≤ (v174 30 0 8).toInt ∧ (v174 30 0 8).toInt ≤ (100 : Int) := hI_v174.1 30 0 8
      have : (1 : Int32).toInt = 1 := (by decide)
      exact join121 v178 x1_63 hI_v178 
    · skip
      have ic175 := i_ne c175
      have : (0 : Int) ≤ (v174 30 0 11).toInt ∧ (v174 30 0 11).toInt ≤ (5 : Int) := hI_v174.1 30 0 11
      have : (4 : Int32).toInt = 4 := (by decide)
      refine ok_kb2 (k_X8_takes v174 hI_v174 0 1 (by have : (0 : Int32).toInt = 0 := (by decide); omega)) (fun r180 v181 hr180 => ?_)
      replace hr180 : IM v181 ∧ (Int32.toInt (v181 37 0 3) = Int32.toInt (v174 37 0 3)) ∧ (Int32.toInt (v181 37 0 4) = Int32.toInt (v174 37 0 4)) ∧ (Int32.toInt (v174 30 0 8) ≤ Int32.toInt (v181 30 0 8)) ∧ (0 ≤ Int32.toInt (v181 30 0 8) + Int32.toInt 0) := hr180
      obtain ⟨hI_v181, hr180_p0, hr180_p1, hr180_p2, hr180_p3⟩ := hr180
      have : ((v181 36 0 3).toInt = 0 ∧ (v181 36 0 4).toInt = 0) ∨ (0 < (v181 36 0 3).toInt ∧ 0 < (v181 36 0 4).toInt) := hI_v181.2.1
      have : (0 : Int) ≤ (v174 37 0 3).toInt ∧ (v174 37 0 3).toInt ≤ (6 : Int) := hI_v174.1 37 0 3
      have : (0 : Int) ≤ (v174 37 0 4).toInt ∧ (v174 37 0 4).toInt ≤ (4 : Int) := hI_v174.1 37 0 4
      have : (-1 : Int) ≤ (v174 30 0 8).toInt ∧ (v174 30 0 8).toInt ≤ (100 : Int) := hI_v174.1 30 0 8
      have : (0 : Int32).toInt = 0 := (by decide)
      have : (1 : Int32).toInt = 1 := (by decide)
      exact join121 v181 x1_63 hI_v181 
  have loop2 : ∀ (n2 : Nat) (w2 : Mm) (x1_2 : Int32), (IM w2) → ((0 : Int) ≤ Int32.toInt x1_2 ∧ Int32.toInt x1_2 ≤ (65 : Int)) → (65 - Int32.toInt x1_2 < (n2 : Int)) → ok (g_X8_gate_L2   n2 w2 x1_2) (fun z => IM z.2) := by
    intro n2
    induction n2 with
    | zero =>
      intro w2 x1_2 hI_w2 hv0_2 hm2
      exfalso
      omega
    | succ n2 ih2 =>
      intro w2 x1_2 hI_w2 hv0_2 hm2
      show ok (b_X8_gate_L2  (g_X8_gate_L2   n2)  w2 x1_2) _
      unfold b_X8_gate_L2
      try rw [tc_0]
      try rw [tc_1]
      try rw [tc_2]
      try rw [tc_3]
      have : ((w2 36 0 3).toInt = 0 ∧ (w2 36 0 4).toInt = 0) ∨ (0 < (w2 36 0 3).toInt ∧ 0 < (w2 36 0 4).toInt) := hI_w2.2.1
      refine ok_ite _ (fun c182 => ?_) (fun c182 => ?_)
      · skip
        have ic182 := i_le c182
        have : (65 : Int32).toInt = 65 := (by decide)
        refine ok_let (fun v183 ev183 => ?_)
        have hI_v183 : IM v183 := by
          rw [ev183]
          refine hI_w2.upo (by decide) ?_
          show (0 : Int) ≤ Int32.toInt (0 : Int32) ∧ Int32.toInt (0 : Int32) ≤ (100 : Int)
          have : (0 : Int32).toInt = 0 := (by decide)
          omega
        have := i_eq (show v183 30 0 6 = w2 30 0 6 by rw [ev183]; exact up3_j (by decide))
        have := i_eq (show v183 30 0 8 = w2 30 0 8 by rw [ev183]; exact up3_j (by decide))
        have := i_eq (show v183 30 0 9 = 0 by rw [ev183]; exact up3_s)
        have : (0 : Int32).toInt = 0 := (by decide)
        have := i_eq (show v183 30 0 11 = w2 30 0 11 by rw [ev183]; exact up3_j (by decide))
        have := i_eq (show v183 30 0 12 = w2 30 0 12 by rw [ev183]; exact up3_j (by decide))
        have := i_eq (show v183 30 0 17 = w2 30 0 17 by rw [ev183]; exact up3_j (by decide))
        have := i_eq (show v183 36 0 3 = w2 36 0 3 by rw [ev183]; exact up3_t (by decide))
        have := i_eq (show v183 37 0 0 = w2 37 0 0 by rw [ev183]; exact up3_t (by decide))
        have := i_eq (show v183 37 0 1 = w2 37 0 1 by rw [ev183]; exact up3_t (by decide))
        have := i_eq (show v183 37 0 2 = w2 37 0 2 by rw [ev183]; exact up3_t (by decide))
        have := i_eq (show v183 37 0 3 = w2 37 0 3 by rw [ev183]; exact up3_t (by decide))
        have := i_eq (show v183 37 0 4 = w2 37 0 4 by rw [ev183]; exact up3_t (by decide))
        have : ((v183 36 0 3).toInt = 0 ∧ (v183 36 0 4).toInt = 0) ∨ (0 < (v183 36 0 3).toInt ∧ 0 < (v183 36 0 4).toInt) := hI_v183.2.1
        refine ok_let (fun v184 ev184 => ?_)
        have hI_v184 : IM v184 := by
          rw [ev184]
          refine hI_v183.upo (by decide) ?_
          show (-1 : Int) ≤ Int32.toInt (-1 : Int32) ∧ Int32.toInt (-1 : Int32) ≤ (100 : Int)
          have : (-1 : Int32).toInt = -1 := (by decide)
          omega
        have := i_eq (show v184 30 0 6 = v183 30 0 6 by rw [ev184]; exact up3_j (by decide))
        have := i_eq (show v184 30 0 8 = ((-1)) by rw [ev184]; exact up3_s)
        have : (-1 : Int32).toInt = -1 := (by decide)
        have := i_eq (show v184 30 0 9 = v183 30 0 9 by rw [ev184]; exact up3_j (by decide))
        have := i_eq (show v184 30 0 11 = v183 30 0 11 by rw [ev184]; exact up3_j (by decide))
        have := i_eq (show v184 30 0 12 = v183 30 0 12 by rw [ev184]; exact up3_j (by decide))
        have := i_eq (show v184 30 0 17 = v183 30 0 17 by rw [ev184]; exact up3_j (by decide))
        have := i_eq (show v184 36 0 3 = v183 36 0 3 by rw [ev184]; exact up3_t (by decide))
        have := i_eq (show v184 37 0 0 = v183 37 0 0 by rw [ev184]; exact up3_t (by decide))
        have := i_eq (show v184 37 0 1 = v183 37 0 1 by rw [ev184]; exact up3_t (by decide))
        have := i_eq (show v184 37 0 2 = v183 37 0 2 by rw [ev184]; exact up3_t (by decide))
        have := i_eq (show v184 37 0 3 = v183 37 0 3 by rw [ev184]; exact up3_t (by decide))
        have := i_eq (show v184 37 0 4 = v183 37 0 4 by rw [ev184]; exact up3_t (by decide))
        have : ((v184 36 0 3).toInt = 0 ∧ (v184 36 0 4).toInt = 0) ∨ (0 < (v184 36 0 3).toInt ∧ 0 < (v184 36 0 4).toInt) := hI_v184.2.1
        refine ok_bind (k_X8_advances v184 hI_v184  ) (fun v187 hr186 => ?_)
        replace hr186 : IM v187 ∧ (Int32.toInt (v187 37 0 3) = Int32.toInt (v184 37 0 3)) ∧ (Int32.toInt (v187 37 0 4) = Int32.toInt (v184 37 0 4)) ∧ (Int32.toInt (v187 30 0 8) = Int32.toInt (v184 30 0 8)) := hr186
        obtain ⟨hI_v187, hr186_p0, hr186_p1, hr186_p2⟩ := hr186
        have : ((v187 36 0 3).toInt = 0 ∧ (v187 36 0 4).toInt = 0) ∨ (0 < (v187 36 0 3).toInt ∧ 0 < (v187 36 0 4).toInt) := hI_v187.2.1
        have : (0 : Int) ≤ (v184 37 0 3).toInt ∧ (v184 37 0 3).toInt ≤ (6 : Int) := hI_v184.1 37 0 3
        have : (0 : Int) ≤ (v184 37 0 4).toInt ∧ (v184 37 0 4).toInt ≤ (4 : Int) := hI_v184.1 37 0 4
        have : (-1 : Int) ≤ (v184 30 0 8).toInt ∧ (v184 30 0 8).toInt ≤ (100 : Int) := hI_v184.1 30 0 8
        refine ok_ite _ (fun c188 => ?_) (fun c188 => ?_)
        · skip
          have ic188 := i_eq c188
          have : (0 : Int) ≤ (v187 30 0 11).toInt ∧ (v187 30 0 11).toInt ≤ (5 : Int) := hI_v187.1 30 0 11
          have : (1 : Int32).toInt = 1 := (by decide)
          refine ok_ite _ (fun c189 => ?_) (fun c189 => ?_)
          · skip
            have ic189 := i_eq c189
            have : (113 : Int32).toInt = 113 := (by decide)
            refine ok_kb2 (k_X8_takes v187 hI_v187 1 1 (by have : (1 : Int32).toInt = 1 := (by decide); omega)) (fun r191 v192 hr191 => ?_)
            replace hr191 : IM v192 ∧ (Int32.toInt (v192 37 0 3) = Int32.toInt (v187 37 0 3)) ∧ (Int32.toInt (v192 37 0 4) = Int32.toInt (v187 37 0 4)) ∧ (Int32.toInt (v187 30 0 8) ≤ Int32.toInt (v192 30 0 8)) ∧ (0 ≤ Int32.toInt (v192 30 0 8) + Int32.toInt 1) := hr191
            obtain ⟨hI_v192, hr191_p0, hr191_p1, hr191_p2, hr191_p3⟩ := hr191
            have : ((v192 36 0 3).toInt = 0 ∧ (v192 36 0 4).toInt = 0) ∨ (0 < (v192 36 0 3).toInt ∧ 0 < (v192 36 0 4).toInt) := hI_v192.2.1
            have : (0 : Int) ≤ (v187 37 0 3).toInt ∧ (v187 37 0 3).toInt ≤ (6 : Int) := hI_v187.1 37 0 3
            have : (0 : Int) ≤ (v187 37 0 4).toInt ∧ (v187 37 0 4).toInt ≤ (4 : Int) := hI_v187.1 37 0 4
            have : (-1 : Int) ≤ (v187 30 0 8).toInt ∧ (v187 30 0 8).toInt ≤ (100 : Int) := hI_v187.1 30 0 8
            have : (1 : Int32).toInt = 1 := (by decide)
            exact join63 v192 x1_2 hI_v192 
          · skip
            have ic189 := i_ne c189
            have : (113 : Int32).toInt = 113 := (by decide)
            refine ok_kb2 (k_X8_takes v187 hI_v187 0 1 (by have : (0 : Int32).toInt = 0 := (by decide); omega)) (fun r194 v195 hr194 => ?_)
            replace hr194 : IM v195 ∧ (Int32.toInt (v195 37 0 3) = Int32.toInt (v187 37 0 3)) ∧ (Int32.toInt (v195 37 0 4) = Int32.toInt (v187 37 0 4)) ∧ (Int32.toInt (v187 30 0 8) ≤ Int32.toInt (v195 30 0 8)) ∧ (0 ≤ Int32.toInt (v195 30 0 8) + Int32.toInt 0) := hr194
            obtain ⟨hI_v195, hr194_p0, hr194_p1, hr194_p2, hr194_p3⟩ := hr194
            have : ((v195 36 0 3).toInt = 0 ∧ (v195 36 0 4).toInt = 0) ∨ (0 < (v195 36 0 3).toInt ∧ 0 < (v195 36 0 4).toInt) := hI_v195.2.1
            have : (0 : Int) ≤ (v187 37 0 3).toInt ∧ (v187 37 0 3).toInt ≤ (6 : Int) := hI_v187.1 37 0 3
            have : (0 : Int) ≤ (v187 37 0 4).toInt ∧ (v187 37 0 4).toInt ≤ (4 : Int) := hI_v187.1 37 0 4
            have : (-1 : Int) ≤ (v187 30 0 8).toInt ∧ (v187 30 0 8).toInt ≤ (100 : Int) := hI_v187.1 30 0 8
            have : (0 : Int32).toInt = 0 := (by decide)
            have : (1 : Int32).toInt = 1 := (by decide)
            exact join63 v195 x1_2 hI_v195 
        · skip
          have ic188 := i_ne c188
          have : (0 : Int) ≤ (v187 30 0 11).toInt ∧ (v187 30 0 11).toInt ≤ (5 : Int) := hI_v187.1 30 0 11
          have : (1 : Int32).toInt = 1 := (by decide)
          refine ok_kb2 (k_X8_takes v187 hI_v187 0 1 (by have : (0 : Int32).toInt = 0 := (by decide); omega)) (fun r197 v198 hr197 => ?_)
          replace hr197 : IM v198 ∧ (Int32.toInt (v198 37 0 3) = Int32.toInt (v187 37 0 3)) ∧ (Int32.toInt (v198 37 0 4) = Int32.toInt (v187 37 0 4)) ∧ (Int32.toInt (v187 30 0 8) ≤ Int32.toInt (v198 30 0 8)) ∧ (0 ≤ Int32.toInt (v198 30 0 8) + Int32.toInt 0) := hr197
          obtain ⟨hI_v198, hr197_p0, hr197_p1, hr197_p2, hr197_p3⟩ := hr197
          have : ((v198 36 0 3).toInt = 0 ∧ (v198 36 0 4).toInt = 0) ∨ (0 < (v198 36 0 3).toInt ∧ 0 < (v198 36 0 4).toInt) := hI_v198.2.1
          have : (0 : Int) ≤ (v187 37 0 3).toInt ∧ (v187 37 0 3).toInt ≤ (6 : Int) := hI_v187.1 37 0 3
          have : (0 : Int) ≤ (v187 37 0 4).toInt ∧ (v187 37 0 4).toInt ≤ (4 : Int) := hI_v187.1 37 0 4
          have : (-1 : Int) ≤ (v187 30 0 8).toInt ∧ (v187 30 0 8).toInt ≤ (100 : Int) := hI_v187.1 30 0 8
          have : (0 : Int32).toInt = 0 := (by decide)
          have : (1 : Int32).toInt = 1 := (by decide)
          exact join63 v198 x1_2 hI_v198 
      · skip
        have ic182 := i_nle c182
        have : (65 : Int32).toInt = 65 := (by decide)
        refine ok_grd _ ?_ ?_
        · skip
          exact gr (by omega) (by omega)
        refine ok_let (fun v200 ev200 => ?_)
        have : (0 : Int32).toInt = 0 := (by decide)
        have hI_v200 : IM v200 := by
          rw [ev200]
          first | exact hI_w2.um7 (by omega) (by omega) | exact hI_w2.u07
        have := i_eq (show v200 30 0 6 = w2 30 0 6 by rw [ev200]; exact up3_t (by decide))
        have := i_eq (show v200 30 0 8 = w2 30 0 8 by rw [ev200]; exact up3_t (by decide))
        have := i_eq (show v200 30 0 9 = w2 30 0 9 by rw [ev200]; exact up3_t (by decide))
        have := i_eq (show v200 30 0 11 = w2 30 0 11 by rw [ev200]; exact up3_t (by decide))
        have := i_eq (show v200 30 0 12 = w2 30 0 12 by rw [ev200]; exact up3_t (by decide))
        have := i_eq (show v200 30 0 17 = w2 30 0 17 by rw [ev200]; exact up3_t (by decide))
        have := i_eq (show v200 36 0 3 = w2 36 0 3 by rw [ev200]; exact up3_t (by decide))
        (try have := i_eq (show v200 37 0 0 = w2 37 0 0 by rw [ev200]; exact up3_j (tcne (by omega) (by omega))))
        (try have := i_eq (show v200 37 0 1 = w2 37 0 1 by rw [ev200]; exact up3_j (tcne (by omega) (by omega))))
        (try have := i_eq (show v200 37 0 2 = w2 37 0 2 by rw [ev200]; exact up3_j (tcne (by omega) (by omega))))
        (try have := i_eq (show v200 37 0 3 = w2 37 0 3 by rw [ev200]; exact up3_j (tcne (by omega) (by omega))))
        (try have := i_eq (show v200 37 0 4 = w2 37 0 4 by rw [ev200]; exact up3_j (tcne (by omega) (by omega))))
        have : ((v200 36 0 3).toInt = 0 ∧ (v200 36 0 4).toInt = 0) ∨ (0 < (v200 36 0 3).toInt ∧ 0 < (v200 36 0 4).toInt) := hI_v200.2.1
        have : (1 : Int32).toInt = 1 := (by decide)
        have := i_bd x1_2
        (first | have := sp_addx x1_2 (1 : Int32) (by omega) | obtain ⟨k5, hk5⟩ := sp_add x1_2 (1 : Int32))
        exact ih2 v200 (x1_2 + 1) hI_v200 (by omega) (by omega)
  unfold g_X8_gate
  try rw [tc_0]
  try rw [tc_1]
  try rw [tc_2]
  try rw [tc_3]
  have : (0 : Int32).toInt = 0 := (by decide)
  exact loop2 2000 v 0 hI_v (by omega) (by omega)
set_option maxHeartbeats 4000000 in
theorem k_X8_fault (v : Mm) (hI_v : IM v)  : ok (g_X8_fault v ) (fun z => True) := by
  unfold g_X8_fault
  refine ok_some ?_
  show True
  trivial
