set_option maxHeartbeats 4000000 in
theorem k_X8_readsGuard (v : Mm) (hI_v : IM v)  : ok (g_X8_readsGuard v ) (fun z => IM z ∧ (Int32.toInt (z 37 0 3) = Int32.toInt (v 37 0 3)) ∧ ((Int32.toInt (v 30 0 8) < 0 ∧ Int32.toInt (z 37 0 4) = Int32.toInt (v 37 0 4) + 1) ∨ 0 ≤ Int32.toInt (z 30 0 8))) := by
  have join82 : ∀ (w82 : Mm) (x1_82 : Int32) (x2_82 : Int32) (x3_82 : Int32), (IM w82) → ((26 : Int) ≤ Int32.toInt x2_82 ∧ Int32.toInt x2_82 ≤ (35 : Int)) → (Int32.toInt (w82 37 0 3) = Int32.toInt (v 37 0 3)) → (Int32.toInt (w82 37 0 4) = Int32.toInt (v 37 0 4)) → (Int32.toInt (v 30 0 8) ≤ Int32.toInt (w82 30 0 8)) → (Int32.toInt (v 37 0 4) ≤ 4 + Int32.toInt (w82 30 0 8)) →  ok (Option.bind (g_X8_isWell w82) (fun r2 => if r2 = 0 then (some w82) else (if x2_82 < 0 ∨ 65 ≤ Int32.toNatClampNeg x2_82 then none else (Option.bind (some (up3 w82 37 0 (Int32.toNatClampNeg x2_82) x1_82)) (fun v6 => if x2_82 + 1 < 0 ∨ 65 ≤ Int32.toNatClampNeg (x2_82 + 1) then none else (Option.bind (some (up3 v6 37 0 (Int32.toNatClampNeg (x2_82 + 1)) x3_82)) (fun v8 => Option.bind (some (up3 v8 37 0 6 ((v8 37 0 6) ||| ((1 : Int32) <<< ((v8 37 0 4) &&& 31))))) (fun v9 => Option.bind (some (up3 v9 37 0 4 ((v9 37 0 4) + 1))) (fun v10 => some v10))))))))) (fun z => IM z ∧ (Int32.toInt (z 37 0 3) = Int32.toInt (v 37 0 3)) ∧ ((Int32.toInt (v 30 0 8) < 0 ∧ Int32.toInt (z 37 0 4) = Int32.toInt (v 37 0 4) + 1) ∨ 0 ≤ Int32.toInt (z 30 0 8))) := by
    intro w82 x1_82 x2_82 x3_82 hI_w82 hv0_82 hv1_82 hv2_82 hv3_82 hv4_82
    have : (0 : Int) ≤ (w82 37 0 3).toInt ∧ (w82 37 0 3).toInt ≤ (6 : Int) := hI_w82.1 37 0 3
    have : (0 : Int) ≤ (v 37 0 3).toInt ∧ (v 37 0 3).toInt ≤ (6 : Int) := hI_v.1 37 0 3
    have : (0 : Int) ≤ (w82 37 0 4).toInt ∧ (w82 37 0 4).toInt ≤ (4 : Int) := hI_w82.1 37 0 4
    have : (0 : Int) ≤ (v 37 0 4).toInt ∧ (v 37 0 4).toInt ≤ (4 : Int) := hI_v.1 37 0 4
    have : (-1 : Int) ≤ (v 30 0 8).toInt ∧ (v 30 0 8).toInt ≤ (100 : Int) := hI_v.1 30 0 8
    have : (-1 : Int) ≤ (w82 30 0 8).toInt ∧ (w82 30 0 8).toInt ≤ (100 : Int) := hI_w82.1 30 0 8
    refine ok_bind (k_X8_isWell w82 hI_w82  ) (fun r12 hr12 => ?_)
    replace hr12 : (0 : Int) ≤ Int32.toInt r12 ∧ Int32.toInt r12 ≤ (1 : Int) ∧ (0 ≤ Int32.toInt (w82 30 0 8) + Int32.toInt r12) ∧ (Int32.toInt (w82 30 0 8) ≤ 100 - 101 * Int32.toInt r12) := hr12
    obtain ⟨hr12_lo, hr12_hi, hr12_p0, hr12_p1⟩ := hr12
    have : (-1 : Int) ≤ (w82 30 0 8).toInt ∧ (w82 30 0 8).toInt ≤ (100 : Int) := hI_w82.1 30 0 8
    refine ok_ite _ (fun c14 => ?_) (fun c14 => ?_)
    · skip
      have ic14 := i_eq c14
      have : (0 : Int32).toInt = 0 := (by decide)
      refine ok_some ?_
      show IM w82 ∧ (Int32.toInt (w82 37 0 3) = Int32.toInt (v 37 0 3)) ∧ ((Int32.toInt (v 30 0 8) < 0 ∧ Int32.toInt (w82 37 0 4) = Int32.toInt (v 37 0 4) + 1) ∨ 0 ≤ Int32.toInt (w82 30 0 8))
      refine ⟨hI_w82, ?_⟩
      omega
    · skip
      have ic14 : Int32.toInt r12 = 1 := one_of hr12_lo hr12_hi c14
      have : (0 : Int32).toInt = 0 := (by decide)
      refine ok_grd _ ?_ ?_
      · skip
        exact gr (by omega) (by omega)
      refine ok_let (fun v16 ev16 => ?_)
      have hI_v16 : IM v16 := by
        rw [ev16]
        first | exact hI_w82.um7 (by omega) (by omega) | exact hI_w82.u07
      have := i_eq (show v16 30 0 8 = w82 30 0 8 by rw [ev16]; exact up3_t (by decide))
      have := i_eq (show v16 30 0 11 = w82 30 0 11 by rw [ev16]; exact up3_t (by decide))
      have := i_eq (show v16 30 0 12 = w82 30 0 12 by rw [ev16]; exact up3_t (by decide))
      (try have := i_eq (show v16 37 0 3 = w82 37 0 3 by rw [ev16]; exact up3_j (tcne (by omega) (by omega))))
      (try have := i_eq (show v16 37 0 4 = w82 37 0 4 by rw [ev16]; exact up3_j (tcne (by omega) (by omega))))
      (try have := i_eq (show v16 37 0 6 = w82 37 0 6 by rw [ev16]; exact up3_j (tcne (by omega) (by omega))))
      refine ok_grd _ ?_ ?_
      · skip
        have : (1 : Int32).toInt = 1 := (by decide)
        have := i_bd x2_82
        (first | have := sp_addx x2_82 (1 : Int32) (by omega) | obtain ⟨k5, hk5⟩ := sp_add x2_82 (1 : Int32))
        exact gr (by omega) (by omega)
      refine ok_let (fun v18 ev18 => ?_)
      have : (1 : Int32).toInt = 1 := (by decide)
      have := i_bd x2_82
      (first | have := sp_addx x2_82 (1 : Int32) (by omega) | obtain ⟨k6, hk6⟩ := sp_add x2_82 (1 : Int32))
      have hI_v18 : IM v18 := by
        rw [ev18]
        first | exact hI_v16.um7 (by omega) (by omega) | exact hI_v16.u07
      have := i_eq (show v18 30 0 8 = v16 30 0 8 by rw [ev18]; exact up3_t (by decide))
      have := i_eq (show v18 30 0 11 = v16 30 0 11 by rw [ev18]; exact up3_t (by decide))
      have := i_eq (show v18 30 0 12 = v16 30 0 12 by rw [ev18]; exact up3_t (by decide))
      (try have := i_eq (show v18 37 0 3 = v16 37 0 3 by rw [ev18]; exact up3_j (tcne (by omega) (by omega))))
      (try have := i_eq (show v18 37 0 4 = v16 37 0 4 by rw [ev18]; exact up3_j (tcne (by omega) (by omega))))
      (try have := i_eq (show v18 37 0 6 = v16 37 0 6 by rw [ev18]; exact up3_j (tcne (by omega) (by omega))))
      refine ok_let (fun v19 ev19 => ?_)
      have hI_v19 : IM v19 := by
        rw [ev19]
        refine hI_v18.upo (by decide) ?_
        show (0 : Int) ≤ Int32.toInt ((v18 37 0 6) ||| ((1 : Int32) <<< ((v18 37 0 4) &&& 31))) ∧ Int32.toInt ((v18 37 0 6) ||| ((1 : Int32) <<< ((v18 37 0 4) &&& 31))) ≤ (15 : Int)
        have : (0 : Int) ≤ (v18 37 0 6).toInt ∧ (v18 37 0 6).toInt ≤ (15 : Int) := hI_v18.1 37 0 6
        have : (1 : Int32).toInt = 1 := (by decide)
        have : (0 : Int) ≤ (v18 37 0 4).toInt ∧ (v18 37 0 4).toInt ≤ (4 : Int) := hI_v18.1 37 0 4
        (try have := sp_shl4 (b := (v18 37 0 4)) (by omega) (by omega))
        (try have := sp_shl5 (b := (v18 37 0 4)) (by omega) (by omega))
        (try have := sp_shl7 (b := (v18 37 0 4)) (by omega) (by omega))
        (try have := sp_shl (a := (1 : Int32)) (b := (v18 37 0 4)) (by omega) (by omega) (by omega) (by omega))
        (try have := sp_or64 (a := (v18 37 0 6)) (b := ((1 : Int32) <<< ((v18 37 0 4) &&& 31))) (by omega) (by omega) (by omega) (by omega))
        (try have := sp_or16 (a := (v18 37 0 6)) (b := ((1 : Int32) <<< ((v18 37 0 4) &&& 31))) (by omega) (by omega) (by omega) (by omega))
        omega
      have := i_eq (show v19 30 0 8 = v18 30 0 8 by rw [ev19]; exact up3_t (by decide))
      have := i_eq (show v19 30 0 11 = v18 30 0 11 by rw [ev19]; exact up3_t (by decide))
      have := i_eq (show v19 30 0 12 = v18 30 0 12 by rw [ev19]; exact up3_t (by decide))
      have := i_eq (show v19 37 0 3 = v18 37 0 3 by rw [ev19]; exact up3_j (by decide))
      have := i_eq (show v19 37 0 4 = v18 37 0 4 by rw [ev19]; exact up3_j (by decide))
      have := i_eq (show v19 37 0 6 = ((v18 37 0 6) ||| ((1 : Int32) <<< ((v18 37 0 4) &&& 31))) by rw [ev19]; exact up3_s)
      have : (0 : Int) ≤ (v18 37 0 6).toInt ∧ (v18 37 0 6).toInt ≤ (15 : Int) := hI_v18.1 37 0 6
      have : (1 : Int32).toInt = 1 := (by decide)
      have : (0 : Int) ≤ (v18 37 0 4).toInt ∧ (v18 37 0 4).toInt ≤ (4 : Int) := hI_v18.1 37 0 4
      (try have := sp_shl4 (b := (v18 37 0 4)) (by omega) (by omega))
      (try have := sp_shl5 (b := (v18 37 0 4)) (by omega) (by omega))
      (try have := sp_shl7 (b := (v18 37 0 4)) (by omega) (by omega))
      (try have := sp_shl (a := (1 : Int32)) (b := (v18 37 0 4)) (by omega) (by omega) (by omega) (by omega))
      (try have := sp_or64 (a := (v18 37 0 6)) (b := ((1 : Int32) <<< ((v18 37 0 4) &&& 31))) (by omega) (by omega) (by omega) (by omega))
      (try have := sp_or16 (a := (v18 37 0 6)) (b := ((1 : Int32) <<< ((v18 37 0 4) &&& 31))) (by omega) (by omega) (by omega) (by omega))
      refine ok_let (fun v20 ev20 => ?_)
      have hI_v20 : IM v20 := by
        rw [ev20]
        refine hI_v19.upo (by decide) ?_
        show (0 : Int) ≤ Int32.toInt ((v19 37 0 4) + 1) ∧ Int32.toInt ((v19 37 0 4) + 1) ≤ (4 : Int)
        have : (0 : Int) ≤ (v19 37 0 4).toInt ∧ (v19 37 0 4).toInt ≤ (4 : Int) := hI_v19.1 37 0 4
        have : (1 : Int32).toInt = 1 := (by decide)
        have := i_bd (v19 37 0 4)
        (first | have := sp_addx (v19 37 0 4) (1 : Int32) (by omega) | obtain ⟨k7, hk7⟩ := sp_add (v19 37 0 4) (1 : Int32))
        omega
      have := i_eq (show v20 30 0 8 = v19 30 0 8 by rw [ev20]; exact up3_t (by decide))
      have := i_eq (show v20 30 0 11 = v19 30 0 11 by rw [ev20]; exact up3_t (by decide))
      have := i_eq (show v20 30 0 12 = v19 30 0 12 by rw [ev20]; exact up3_t (by decide))
      have := i_eq (show v20 37 0 3 = v19 37 0 3 by rw [ev20]; exact up3_j (by decide))
      have := i_eq (show v20 37 0 4 = ((v19 37 0 4) + 1) by rw [ev20]; exact up3_s)
      have : (0 : Int) ≤ (v19 37 0 4).toInt ∧ (v19 37 0 4).toInt ≤ (4 : Int) := hI_v19.1 37 0 4
      have : (1 : Int32).toInt = 1 := (by decide)
      have := i_bd (v19 37 0 4)
      (first | have := sp_addx (v19 37 0 4) (1 : Int32) (by omega) | obtain ⟨k8, hk8⟩ := sp_add (v19 37 0 4) (1 : Int32))
      have := i_eq (show v20 37 0 6 = v19 37 0 6 by rw [ev20]; exact up3_j (by decide))
      refine ok_some ?_
      show IM v20 ∧ (Int32.toInt (v20 37 0 3) = Int32.toInt (v 37 0 3)) ∧ ((Int32.toInt (v 30 0 8) < 0 ∧ Int32.toInt (v20 37 0 4) = Int32.toInt (v 37 0 4) + 1) ∨ 0 ≤ Int32.toInt (v20 30 0 8))
      refine ⟨hI_v20, ?_⟩
      omega
  have join55 : ∀ (w55 : Mm) (x1_55 : Int32) (x2_55 : Int32), (IM w55) → ((26 : Int) ≤ Int32.toInt x2_55 ∧ Int32.toInt x2_55 ≤ (35 : Int)) → (Int32.toInt (w55 37 0 3) = Int32.toInt (v 37 0 3)) → (Int32.toInt (w55 37 0 4) = Int32.toInt (v 37 0 4)) → (Int32.toInt (v 30 0 8) ≤ Int32.toInt (w55 30 0 8)) → (Int32.toInt (v 37 0 4) ≤ 4 + Int32.toInt (w55 30 0 8)) →  ok (kb2 (g_X8_figure w55 0 9) (fun r22 v23 => if v23 30 0 11 = 4 then (kb2 (g_X8_takes v23 1 1) (fun r26 v27 => Option.bind (g_X8_isWell v27) (fun r29 => if r29 = 0 then (some v27) else (if x2_55 < 0 ∨ 65 ≤ Int32.toNatClampNeg x2_55 then none else (Option.bind (some (up3 v27 37 0 (Int32.toNatClampNeg x2_55) x1_55)) (fun v33 => if x2_55 + 1 < 0 ∨ 65 ≤ Int32.toNatClampNeg (x2_55 + 1) then none else (Option.bind (some (up3 v33 37 0 (Int32.toNatClampNeg (x2_55 + 1)) r22)) (fun v35 => Option.bind (some (up3 v35 37 0 6 ((v35 37 0 6) ||| ((1 : Int32) <<< ((v35 37 0 4) &&& 31))))) (fun v36 => Option.bind (some (up3 v36 37 0 4 ((v36 37 0 4) + 1))) (fun v37 => some v37)))))))))) else (kb2 (g_X8_takes v23 0 1) (fun r39 v40 => Option.bind (g_X8_isWell v40) (fun r42 => if r42 = 0 then (some v40) else (if x2_55 < 0 ∨ 65 ≤ Int32.toNatClampNeg x2_55 then none else (Option.bind (some (up3 v40 37 0 (Int32.toNatClampNeg x2_55) x1_55)) (fun v46 => if x2_55 + 1 < 0 ∨ 65 ≤ Int32.toNatClampNeg (x2_55 + 1) then none else (Option.bind (some (up3 v46 37 0 (Int32.toNatClampNeg (x2_55 + 1)) r22)) (fun v48 => Option.bind (some (up3 v48 37 0 6 ((v48 37 0 6) ||| ((1 : Int32) <<< ((v48 37 0 4) &&& 31))))) (fun v49 => Option.bind (some (up3 v49 37 0 4 ((v49 37 0 4) + 1))) (fun v50 => some v50)))))))))))) (fun z => IM z ∧ (Int32.toInt (z 37 0 3) = Int32.toInt (v 37 0 3)) ∧ ((Int32.toInt (v 30 0 8) < 0 ∧ Int32.toInt (z 37 0 4) = Int32.toInt (v 37 0 4) + 1) ∨ 0 ≤ Int32.toInt (z 30 0 8))) := by
    intro w55 x1_55 x2_55 hI_w55 hv0_55 hv1_55 hv2_55 hv3_55 hv4_55
    have : (0 : Int) ≤ (w55 37 0 3).toInt ∧ (w55 37 0 3).toInt ≤ (6 : Int) := hI_w55.1 37 0 3
    have : (0 : Int) ≤ (v 37 0 3).toInt ∧ (v 37 0 3).toInt ≤ (6 : Int) := hI_v.1 37 0 3
    have : (0 : Int) ≤ (w55 37 0 4).toInt ∧ (w55 37 0 4).toInt ≤ (4 : Int) := hI_w55.1 37 0 4
    have : (0 : Int) ≤ (v 37 0 4).toInt ∧ (v 37 0 4).toInt ≤ (4 : Int) := hI_v.1 37 0 4
    have : (-1 : Int) ≤ (v 30 0 8).toInt ∧ (v 30 0 8).toInt ≤ (100 : Int) := hI_v.1 30 0 8
    have : (-1 : Int) ≤ (w55 30 0 8).toInt ∧ (w55 30 0 8).toInt ≤ (100 : Int) := hI_w55.1 30 0 8
    refine ok_kb2 (k_X8_figure w55 hI_w55 0 9 (by have : (0 : Int32).toInt = 0 := (by decide); omega) (by have : (9 : Int32).toInt = 9 := (by decide); omega)) (fun r52 v53 hr52 => ?_)
    replace hr52 : IM v53 ∧ (0 : Int) ≤ Int32.toInt r52 ∧ Int32.toInt r52 ≤ (9 : Int) ∧ (Int32.toInt (v53 37 0 3) = Int32.toInt (w55 37 0 3)) ∧ (Int32.toInt (v53 37 0 4) = Int32.toInt (w55 37 0 4)) ∧ (Int32.toInt (w55 30 0 8) ≤ Int32.toInt (v53 30 0 8)) ∧ (Int32.toInt r52 ≤ Int32.toInt 9) := hr52
    obtain ⟨hI_v53, hr52_lo, hr52_hi, hr52_p0, hr52_p1, hr52_p2, hr52_p3⟩ := hr52
    have : (0 : Int) ≤ (w55 37 0 3).toInt ∧ (w55 37 0 3).toInt ≤ (6 : Int) := hI_w55.1 37 0 3
    have : (0 : Int) ≤ (w55 37 0 4).toInt ∧ (w55 37 0 4).toInt ≤ (4 : Int) := hI_w55.1 37 0 4
    have : (-1 : Int) ≤ (w55 30 0 8).toInt ∧ (w55 30 0 8).toInt ≤ (100 : Int) := hI_w55.1 30 0 8
    have : (0 : Int32).toInt = 0 := (by decide)
    have : (9 : Int32).toInt = 9 := (by decide)
    refine ok_ite _ (fun c54 => ?_) (fun c54 => ?_)
    · skip
      have ic54 := i_eq c54
      have : (0 : Int) ≤ (v53 30 0 11).toInt ∧ (v53 30 0 11).toInt ≤ (5 : Int) := hI_v53.1 30 0 11
      have : (4 : Int32).toInt = 4 := (by decide)
      refine ok_kb2 (k_X8_takes v53 hI_v53 1 1 (by have : (1 : Int32).toInt = 1 := (by decide); omega)) (fun r56 v57 hr56 => ?_)
      replace hr56 : IM v57 ∧ (Int32.toInt (v57 37 0 3) = Int32.toInt (v53 37 0 3)) ∧ (Int32.toInt (v57 37 0 4) = Int32.toInt (v53 37 0 4)) ∧ (Int32.toInt (v53 30 0 8) ≤ Int32.toInt (v57 30 0 8)) ∧ (0 ≤ Int32.toInt (v57 30 0 8) + Int32.toInt 1) := hr56
      obtain ⟨hI_v57, hr56_p0, hr56_p1, hr56_p2, hr56_p3⟩ := hr56
      have : (0 : Int) ≤ (v53 37 0 3).toInt ∧ (v53 37 0 3).toInt ≤ (6 : Int) := hI_v53.1 37 0 3
      have : (0 : Int) ≤ (v53 37 0 4).toInt ∧ (v53 37 0 4).toInt ≤ (4 : Int) := hI_v53.1 37 0 4
      have : (-1 : Int) ≤ (v53 30 0 8).toInt ∧ (v53 30 0 8).toInt ≤ (100 : Int) := hI_v53.1 30 0 8
      have : (1 : Int32).toInt = 1 := (by decide)
      exact join82 v57 x1_55 x2_55 r52 hI_v57 (by omega) (by omega) (by omega) (by omega) (by omega)
    · skip
      have ic54 := i_ne c54
      have : (0 : Int) ≤ (v53 30 0 11).toInt ∧ (v53 30 0 11).toInt ≤ (5 : Int) := hI_v53.1 30 0 11
      have : (4 : Int32).toInt = 4 := (by decide)
      refine ok_kb2 (k_X8_takes v53 hI_v53 0 1 (by have : (0 : Int32).toInt = 0 := (by decide); omega)) (fun r59 v60 hr59 => ?_)
      replace hr59 : IM v60 ∧ (Int32.toInt (v60 37 0 3) = Int32.toInt (v53 37 0 3)) ∧ (Int32.toInt (v60 37 0 4) = Int32.toInt (v53 37 0 4)) ∧ (Int32.toInt (v53 30 0 8) ≤ Int32.toInt (v60 30 0 8)) ∧ (0 ≤ Int32.toInt (v60 30 0 8) + Int32.toInt 0) := hr59
      obtain ⟨hI_v60, hr59_p0, hr59_p1, hr59_p2, hr59_p3⟩ := hr59
      have : (0 : Int) ≤ (v53 37 0 3).toInt ∧ (v53 37 0 3).toInt ≤ (6 : Int) := hI_v53.1 37 0 3
      have : (0 : Int) ≤ (v53 37 0 4).toInt ∧ (v53 37 0 4).toInt ≤ (4 : Int) := hI_v53.1 37 0 4
      have : (-1 : Int) ≤ (v53 30 0 8).toInt ∧ (v53 30 0 8).toInt ≤ (100 : Int) := hI_v53.1 30 0 8
      have : (0 : Int32).toInt = 0 := (by decide)
      have : (1 : Int32).toInt = 1 := (by decide)
      exact join82 v60 x1_55 x2_55 r52 hI_v60 (by omega) (by omega) (by omega) (by omega) (by omega)
  have join29 : ∀ (w29 : Mm) (x1_29 : Int32), (IM w29) → (Int32.toInt (w29 37 0 3) = Int32.toInt (v 37 0 3)) → (Int32.toInt (w29 37 0 4) = Int32.toInt (v 37 0 4)) → (Int32.toInt (v 30 0 8) ≤ Int32.toInt (w29 30 0 8)) → (Int32.toInt (v 37 0 4) ≤ 4 + Int32.toInt (w29 30 0 8)) →  ok (if 4 ≤ w29 37 0 4 then (kb2 (g_X8_figure w29 0 9) (fun r63 v64 => if v64 30 0 11 = 4 then (kb2 (g_X8_takes v64 1 1) (fun r67 v68 => Option.bind (g_X8_isWell v68) (fun r70 => if r70 = 0 then (some v68) else (if (26 : Int32) + ((3 : Int32) * 0) < 0 ∨ 65 ≤ Int32.toNatClampNeg ((26 : Int32) + ((3 : Int32) * 0)) then none else (Option.bind (some (up3 v68 37 0 (Int32.toNatClampNeg ((26 : Int32) + ((3 : Int32) * 0))) x1_29)) (fun v74 => if ((26 : Int32) + ((3 : Int32) * 0)) + 1 < 0 ∨ 65 ≤ Int32.toNatClampNeg (((26 : Int32) + ((3 : Int32) * 0)) + 1) then none else (Option.bind (some (up3 v74 37 0 (Int32.toNatClampNeg (((26 : Int32) + ((3 : Int32) * 0)) + 1)) r63)) (fun v76 => Option.bind (some (up3 v76 37 0 6 ((v76 37 0 6) ||| ((1 : Int32) <<< ((v76 37 0 4) &&& 31))))) (fun v77 => Option.bind (some (up3 v77 37 0 4 ((v77 37 0 4) + 1))) (fun v78 => some v78)))))))))) else (kb2 (g_X8_takes v64 0 1) (fun r80 v81 => Option.bind (g_X8_isWell v81) (fun r83 => if r83 = 0 then (some v81) else (if (26 : Int32) + ((3 : Int32) * 0) < 0 ∨ 65 ≤ Int32.toNatClampNeg ((26 : Int32) + ((3 : Int32) * 0)) then none else (Option.bind (some (up3 v81 37 0 (Int32.toNatClampNeg ((26 : Int32) + ((3 : Int32) * 0))) x1_29)) (fun v87 => if ((26 : Int32) + ((3 : Int32) * 0)) + 1 < 0 ∨ 65 ≤ Int32.toNatClampNeg (((26 : Int32) + ((3 : Int32) * 0)) + 1) then none else (Option.bind (some (up3 v87 37 0 (Int32.toNatClampNeg (((26 : Int32) + ((3 : Int32) * 0)) + 1)) r63)) (fun v89 => Option.bind (some (up3 v89 37 0 6 ((v89 37 0 6) ||| ((1 : Int32) <<< ((v89 37 0 4) &&& 31))))) (fun v90 => Option.bind (some (up3 v90 37 0 4 ((v90 37 0 4) + 1))) (fun v91 => some v91)))))))))))) else (Option.bind (some ((26 : Int32) + ((3 : Int32) * (w29 37 0 4)))) (fun x92 => kb2 (g_X8_figure w29 0 9) (fun r94 v95 => if v95 30 0 11 = 4 then (kb2 (g_X8_takes v95 1 1) (fun r98 v99 => Option.bind (g_X8_isWell v99) (fun r101 => if r101 = 0 then (some v99) else (if x92 < 0 ∨ 65 ≤ Int32.toNatClampNeg x92 then none else (Option.bind (some (up3 v99 37 0 (Int32.toNatClampNeg x92) x1_29)) (fun v105 => if x92 + 1 < 0 ∨ 65 ≤ Int32.toNatClampNeg (x92 + 1) then none else (Option.bind (some (up3 v105 37 0 (Int32.toNatClampNeg (x92 + 1)) r94)) (fun v107 => Option.bind (some (up3 v107 37 0 6 ((v107 37 0 6) ||| ((1 : Int32) <<< ((v107 37 0 4) &&& 31))))) (fun v108 => Option.bind (some (up3 v108 37 0 4 ((v108 37 0 4) + 1))) (fun v109 => some v109)))))))))) else (kb2 (g_X8_takes v95 0 1) (fun r111 v112 => Option.bind (g_X8_isWell v112) (fun r114 => if r114 = 0 then (some v112) else (if x92 < 0 ∨ 65 ≤ Int32.toNatClampNeg x92 then none else (Option.bind (some (up3 v112 37 0 (Int32.toNatClampNeg x92) x1_29)) (fun v118 => if x92 + 1 < 0 ∨ 65 ≤ Int32.toNatClampNeg (x92 + 1) then none else (Option.bind (some (up3 v118 37 0 (Int32.toNatClampNeg (x92 + 1)) r94)) (fun v120 => Option.bind (some (up3 v120 37 0 6 ((v120 37 0 6) ||| ((1 : Int32) <<< ((v120 37 0 4) &&& 31))))) (fun v121 => Option.bind (some (up3 v121 37 0 4 ((v121 37 0 4) + 1))) (fun v122 => some v122)))))))))))))) (fun z => IM z ∧ (Int32.toInt (z 37 0 3) = Int32.toInt (v 37 0 3)) ∧ ((Int32.toInt (v 30 0 8) < 0 ∧ Int32.toInt (z 37 0 4) = Int32.toInt (v 37 0 4) + 1) ∨ 0 ≤ Int32.toInt (z 30 0 8))) := by
    intro w29 x1_29 hI_w29 hv0_29 hv1_29 hv2_29 hv3_29
    have : (0 : Int) ≤ (w29 37 0 3).toInt ∧ (w29 37 0 3).toInt ≤ (6 : Int) := hI_w29.1 37 0 3
    have : (0 : Int) ≤ (v 37 0 3).toInt ∧ (v 37 0 3).toInt ≤ (6 : Int) := hI_v.1 37 0 3
    have : (0 : Int) ≤ (w29 37 0 4).toInt ∧ (w29 37 0 4).toInt ≤ (4 : Int) := hI_w29.1 37 0 4
    have : (0 : Int) ≤ (v 37 0 4).toInt ∧ (v 37 0 4).toInt ≤ (4 : Int) := hI_v.1 37 0 4
    have : (-1 : Int) ≤ (v 30 0 8).toInt ∧ (v 30 0 8).toInt ≤ (100 : Int) := hI_v.1 30 0 8
    have : (-1 : Int) ≤ (w29 30 0 8).toInt ∧ (w29 30 0 8).toInt ≤ (100 : Int) := hI_w29.1 30 0 8
    refine ok_ite _ (fun c123 => ?_) (fun c123 => ?_)
    · skip
      have ic123 := i_le c123
      have : (0 : Int) ≤ (w29 37 0 4).toInt ∧ (w29 37 0 4).toInt ≤ (4 : Int) := hI_w29.1 37 0 4
      have : (4 : Int32).toInt = 4 := (by decide)
      have : (26 : Int32).toInt = 26 := (by decide)
      have : (3 : Int32).toInt = 3 := (by decide)
      have : (0 : Int32).toInt = 0 := (by decide)
      (first | have := sp_mulcx (3 : Int32) (0 : Int32) 0 (by decide) (by omega) | obtain ⟨k51, hk51⟩ := sp_mulc (3 : Int32) (0 : Int32) 0 (by decide))
      (first | have := sp_addx (26 : Int32) ((3 : Int32) * 0) (by omega) | obtain ⟨k52, hk52⟩ := sp_add (26 : Int32) ((3 : Int32) * 0))
      exact join55 w29 x1_29 ((26 : Int32) + ((3 : Int32) * 0)) hI_w29 (by omega) (by omega) (by omega) (by omega) (by omega)
    · skip
      have ic123 := i_nle c123
      have : (0 : Int) ≤ (w29 37 0 4).toInt ∧ (w29 37 0 4).toInt ≤ (4 : Int) := hI_w29.1 37 0 4
      have : (4 : Int32).toInt = 4 := (by decide)
      refine ok_let (fun x124 ex124 => ?_)
      have : (26 : Int32).toInt = 26 := (by decide)
      have : (3 : Int32).toInt = 3 := (by decide)
      have : (0 : Int) ≤ (w29 37 0 4).toInt ∧ (w29 37 0 4).toInt ≤ (4 : Int) := hI_w29.1 37 0 4
      (first | have := sp_cmulx (3 : Int32) (w29 37 0 4) 3 (by decide) (by omega) | obtain ⟨k53, hk53⟩ := sp_cmul (3 : Int32) (w29 37 0 4) 3 (by decide))
      (first | have := sp_addx (26 : Int32) ((3 : Int32) * (w29 37 0 4)) (by omega) | obtain ⟨k54, hk54⟩ := sp_add (26 : Int32) ((3 : Int32) * (w29 37 0 4)))
      have := i_eq ex124
      exact join55 w29 x1_29 x124 hI_w29 (by omega) (by omega) (by omega) (by omega) (by omega)
  unfold g_X8_readsGuard
  try rw [tc_4]
  try rw [tc_6]
  refine ok_bind (k_X8_kindOf v hI_v (v 30 0 12) ) (fun r126 hr126 => ?_)
  replace hr126 : ((Int32.toInt r126 = 0 ∧ ¬ (Int32.toInt (v 30 0 12) = 107 ∨ Int32.toInt (v 30 0 12) = 115 ∨ Int32.toInt (v 30 0 12) = 101 ∨ Int32.toInt (v 30 0 12) = 100 ∨ Int32.toInt (v 30 0 12) = 103)) ∨ (1 ≤ Int32.toInt r126 ∧ (Int32.toInt (v 30 0 12) = 107 ∨ Int32.toInt (v 30 0 12) = 115 ∨ Int32.toInt (v 30 0 12) = 101 ∨ Int32.toInt (v 30 0 12) = 100 ∨ Int32.toInt (v 30 0 12) = 103))) := hr126
  have hr126_p0 := hr126
  clear hr126
  refine ok_ite _ (fun c128 => ?_) (fun c128 => ?_)
  · skip
    have ic128 := i_le c128
    have : (0 : Int) ≤ (v 37 0 4).toInt ∧ (v 37 0 4).toInt ≤ (4 : Int) := hI_v.1 37 0 4
    have : (4 : Int32).toInt = 4 := (by decide)
    refine ok_kb2 (k_X8_takes v hI_v 0 3 (by have : (0 : Int32).toInt = 0 := (by decide); omega)) (fun r130 v131 hr130 => ?_)
    replace hr130 : IM v131 ∧ (Int32.toInt (v131 37 0 3) = Int32.toInt (v 37 0 3)) ∧ (Int32.toInt (v131 37 0 4) = Int32.toInt (v 37 0 4)) ∧ (Int32.toInt (v 30 0 8) ≤ Int32.toInt (v131 30 0 8)) ∧ (0 ≤ Int32.toInt (v131 30 0 8) + Int32.toInt 0) := hr130
    obtain ⟨hI_v131, hr130_p0, hr130_p1, hr130_p2, hr130_p3⟩ := hr130
    have : (0 : Int) ≤ (v 37 0 3).toInt ∧ (v 37 0 3).toInt ≤ (6 : Int) := hI_v.1 37 0 3
    have : (0 : Int) ≤ (v 37 0 4).toInt ∧ (v 37 0 4).toInt ≤ (4 : Int) := hI_v.1 37 0 4
    have : (-1 : Int) ≤ (v 30 0 8).toInt ∧ (v 30 0 8).toInt ≤ (100 : Int) := hI_v.1 30 0 8
    have : (0 : Int32).toInt = 0 := (by decide)
    have : (3 : Int32).toInt = 3 := (by decide)
    exact join29 v131 r126 hI_v131 (by omega) (by omega) (by omega) (by omega)
  · skip
    have ic128 := i_nle c128
    have : (0 : Int) ≤ (v 37 0 4).toInt ∧ (v 37 0 4).toInt ≤ (4 : Int) := hI_v.1 37 0 4
    have : (4 : Int32).toInt = 4 := (by decide)
    refine ok_kb2 (k_X8_takes v hI_v 1 3 (by have : (1 : Int32).toInt = 1 := (by decide); omega)) (fun r133 v134 hr133 => ?_)
    replace hr133 : IM v134 ∧ (Int32.toInt (v134 37 0 3) = Int32.toInt (v 37 0 3)) ∧ (Int32.toInt (v134 37 0 4) = Int32.toInt (v 37 0 4)) ∧ (Int32.toInt (v 30 0 8) ≤ Int32.toInt (v134 30 0 8)) ∧ (0 ≤ Int32.toInt (v134 30 0 8) + Int32.toInt 1) := hr133
    obtain ⟨hI_v134, hr133_p0, hr133_p1, hr133_p2, hr133_p3⟩ := hr133
    have : (0 : Int) ≤ (v 37 0 3).toInt ∧ (v 37 0 3).toInt ≤ (6 : Int) := hI_v.1 37 0 3
    have : (0 : Int) ≤ (v 37 0 4).toInt ∧ (v 37 0 4).toInt ≤ (4 : Int) := hI_v.1 37 0 4
    have : (-1 : Int) ≤ (v 30 0 8).toInt ∧ (v 30 0 8).toInt ≤ (100 : Int) := hI_v.1 30 0 8
    have : (1 : Int32).toInt = 1 := (by decide)
    have : (3 : Int32).toInt = 3 := (by decide)
    exact join29 v134 r126 hI_v134 (by omega) (by omega) (by omega) (by omega)
