set_option maxHeartbeats 4000000 in
theorem k_X8_byteAt (v : Mm) (hI_v : IM v) (a1 : Int32) (h_a1 : (0 : Int) ≤ a1.toInt ∧ a1.toInt ≤ (100 : Int)) : ok (g_X8_byteAt v a1) (fun z => (-1 : Int) ≤ Int32.toInt z ∧ Int32.toInt z ≤ (255 : Int) ∧ (Int32.toInt z = -1 ∨ Int32.toInt a1 < Int32.toInt (v 30 0 6))) := by
  unfold g_X8_byteAt
  refine ok_ite _ (fun c1 => ?_) (fun c1 => ?_)
  · skip
    have ic1 := i_le c1
    have : (0 : Int) ≤ (v 30 0 6).toInt ∧ (v 30 0 6).toInt ≤ (100 : Int) := hI_v.1 30 0 6
    refine ok_some ?_
    show (-1 : Int) ≤ Int32.toInt (-1 : Int32) ∧ Int32.toInt (-1 : Int32) ≤ (255 : Int) ∧ (Int32.toInt (-1 : Int32) = -1 ∨ Int32.toInt a1 < Int32.toInt (v 30 0 6))
    have : (-1 : Int32).toInt = -1 := (by decide)
    omega
  · skip
    have ic1 := i_nle c1
    have : (0 : Int) ≤ (v 30 0 6).toInt ∧ (v 30 0 6).toInt ≤ (100 : Int) := hI_v.1 30 0 6
    refine ok_grd _ ?_ ?_
    · skip
      exact gr (by omega) (by omega)
    refine ok_some ?_
    show (-1 : Int) ≤ Int32.toInt (v 35 0 (Int32.toNatClampNeg a1)) ∧ Int32.toInt (v 35 0 (Int32.toNatClampNeg a1)) ≤ (255 : Int) ∧ (Int32.toInt (v 35 0 (Int32.toNatClampNeg a1)) = -1 ∨ Int32.toInt a1 < Int32.toInt (v 30 0 6))
    have : (0 : Int) ≤ (v 35 0 (Int32.toNatClampNeg a1)).toInt ∧ (v 35 0 (Int32.toNatClampNeg a1)).toInt ≤ (255 : Int) := hI_v.1 35 0 (Int32.toNatClampNeg a1)
    omega
theorem ok_eq {α : Type} {o : Option α} {a : α} (h : o = some a) : ok o (fun z => z = a) := ⟨a, h, rfl⟩
theorem k_adv_L : ∀ (n : Nat) (w : Mm) (x : Int32), IM w → 100 - (w 30 0 9).toInt < (n : Int) → ok (g_X8_advances_L38 n w x) (fun z => IM z) := by
  have e1 : (1 : Int32).toInt = 1 := by decide
  have e48 : (48 : Int32).toInt = 48 := by decide
  have full : ∀ y : Int32, (rgM 30 12).1 ≤ y.toInt ∧ y.toInt ≤ (rgM 30 12).2 := fun y => i_full y
  intro n
  induction n with
  | zero =>
    intro w x hw hn
    have h9 : (0 : Int) ≤ (w 30 0 9).toInt ∧ (w 30 0 9).toInt ≤ (100 : Int) := hw.1 30 0 9
    exfalso; omega
  | succ n ih =>
    intro w x hw hn
    have h9 : (0 : Int) ≤ (w 30 0 9).toInt ∧ (w 30 0 9).toInt ≤ (100 : Int) := hw.1 30 0 9
    have h6 : (0 : Int) ≤ (w 30 0 6).toInt ∧ (w 30 0 6).toInt ≤ (100 : Int) := hw.1 30 0 6
    show ok (b_X8_advances_L38 (g_X8_advances_L38 n) w x) _
    unfold b_X8_advances_L38
    refine ok_bind (k_X8_byteAt w hw (w 30 0 9) h9) (fun r hr => ?_)
    refine ok_bind (ok_eq (q_X8_in w r 48 57)) (fun r5 e5 => ?_)
    refine ok_ite _ (fun c => ?_) (fun c => ?_)
    · exact ok_ite _ (fun _ => ok_let (fun z e => ok_some (by rw [e]; exact hw.upo (by decide) (by decide)))) (fun _ => ok_let (fun z e => ok_some (by rw [e]; exact hw.upo (by decide) (by decide))))
    · have hd : (48 : Int32).toInt ≤ r.toInt ∧ r.toInt ≤ (57 : Int32).toInt := by
        by_cases q : (48 : Int32).toInt ≤ r.toInt ∧ r.toInt ≤ (57 : Int32).toInt
        · exact q
        · exact absurd (e5.trans (if_neg q)) c
      have hlt : (w 30 0 9).toInt < (w 30 0 6).toInt := by
        have q := hr.2.2
        omega
      have step : ∀ (y : Int32) (v1 : Mm), v1 = up3 w 30 0 12 y → ∀ v2 : Mm, v2 = up3 v1 30 0 9 (v1 30 0 9 + 1) → ok (g_X8_advances_L38 n v2 x) (fun z => IM z) := by
        intro y v1 q1 v2 q2
        have h1 : IM v1 := by rw [q1]; exact hw.upo (by decide) (full y)
        have a1 : v1 30 0 9 = w 30 0 9 := by rw [q1]; exact up3_j (by decide)
        have b1 := i_eq a1
        have s := sp_addx (v1 30 0 9) 1 (by omega)
        have h2 : IM v2 := by rw [q2]; exact h1.upo (by decide) (show (0 : Int) ≤ _ ∧ _ ≤ (100 : Int) by omega)
        have a2 : v2 30 0 9 = v1 30 0 9 + 1 := by rw [q2]; exact up3_s
        have b2 := i_eq a2
        exact ih v2 x h2 (by omega)
      refine ok_ite _ (fun _ => ?_) (fun _ => ?_)
      · exact ok_let (fun v1 q1 => ok_let (fun v2 q2 => step _ v1 q1 v2 q2))
      · exact ok_bind (k_X8_byteAt w hw (w 30 0 9) h9) (fun r2 _ => ok_let (fun v1 q1 => ok_let (fun v2 q2 => step _ v1 q1 v2 q2)))
theorem k_adv (v : Mm) (hI_v : IM v) : ok (g_X8_advances v) (fun z => IM z) := by
  have e0 : (0 : Int32).toInt = 0 := by decide
  have e1 : (1 : Int32).toInt = 1 := by decide
  have e48 : (48 : Int32).toInt = 48 := by decide
  have h9 : (0 : Int) ≤ (v 30 0 9).toInt ∧ (v 30 0 9).toInt ≤ (100 : Int) := hI_v.1 30 0 9
  have full : ∀ y : Int32, (rgM 30 12).1 ≤ y.toInt ∧ y.toInt ≤ (rgM 30 12).2 := fun y => i_full y
  unfold g_X8_advances
  refine ok_let (fun v1 q1 => ?_)
  have h1 : IM v1 := by rw [q1]; exact hI_v.upo (by decide) h9
  have h19 : (0 : Int) ≤ (v1 30 0 9).toInt ∧ (v1 30 0 9).toInt ≤ (100 : Int) := h1.1 30 0 9
  have h16 : (0 : Int) ≤ (v1 30 0 6).toInt ∧ (v1 30 0 6).toInt ≤ (100 : Int) := h1.1 30 0 6
  refine ok_bind (k_X8_byteAt v1 h1 (v1 30 0 9) h19) (fun r hr => ?_)
  refine ok_let (fun v5 q5 => ?_)
  have h5 : IM v5 := by rw [q5]; exact h1.upo (by decide) (full r)
  have b9 := i_eq (show v5 30 0 9 = v1 30 0 9 by rw [q5]; exact up3_j (by decide))
  refine ok_bind (ok_eq (q_X8_in v5 r 48 57)) (fun r7 _ => ?_)
  have go : ∀ (y : Int32) (hy : (rgM 30 11).1 ≤ y.toInt ∧ y.toInt ≤ (rgM 30 11).2) (d : Int32), (d.toInt = 0 ∨ (d.toInt = 1 ∧ 0 ≤ r.toInt)) → ∀ w : Mm, w = up3 v5 30 0 11 y → ∀ w2 : Mm, w2 = up3 w 30 0 9 (w 30 0 9 + d) → IM w2 := by
    intro y hy d hd w ew w2 ew2
    have h2 : IM w := by rw [ew]; exact h5.upo (by decide) hy
    have b2 := i_eq (show w 30 0 9 = v5 30 0 9 by rw [ew]; exact up3_j (by decide))
    have hq := hr.2.2
    have s := sp_addx (w 30 0 9) d (by omega)
    rw [ew2]
    exact h2.upo (by decide) (show (0 : Int) ≤ _ ∧ _ ≤ (100 : Int) by omega)
  refine ok_ite _ (fun _ => ?_) (fun _ => ok_let (fun w q => k_adv_L 2000 w r (by rw [q]; exact h5.upo (by decide) (full 0)) (by have := i_eq (show w 30 0 9 = v5 30 0 9 by rw [q]; exact up3_j (by decide)); omega)))
  have fin : ∀ (y : Int32), (rgM 30 11).1 ≤ y.toInt ∧ y.toInt ≤ (rgM 30 11).2 → (y = 0 ∨ 0 ≤ r.toInt) → ok (Option.bind (some (up3 v5 30 0 11 y)) (fun v25 => if v25 30 0 11 = 0 then (Option.bind (some (up3 v25 30 0 9 ((v25 30 0 9) + 0))) (fun v28 => some v28)) else (Option.bind (some (up3 v25 30 0 9 ((v25 30 0 9) + 1))) (fun v27 => some v27)))) (fun z => IM z) := by
    intro y hy hyr
    refine ok_let (fun w ew => ok_ite _ (fun _ => ok_let (fun w2 ew2 => ok_some (go y hy 0 (Or.inl e0) w ew w2 ew2))) (fun c => ok_let (fun w2 ew2 => ok_some (go y hy 1 (Or.inr ⟨e1, ?_⟩) w ew w2 ew2))))
    rcases hyr with q | q
    · exact absurd ((show w 30 0 11 = y by rw [ew]; exact up3_s).trans q) c
    · exact q
  refine ok_ite _ (fun c => ?_) (fun _ => fin 0 (by decide) (Or.inl rfl))
  have hr0 := i_le c
  rw [e0] at hr0
  refine ok_bind (ok_eq (q_X8_in v5 r 97 122)) (fun r12 _ => ?_)
  refine ok_ite _ (fun _ => ?_) (fun _ => fin 1 (by decide) (Or.inr hr0))
  refine ok_ite _ (fun _ => fin 3 (by decide) (Or.inr hr0)) (fun _ => ?_)
  exact ok_ite _ (fun _ => fin 4 (by decide) (Or.inr hr0)) (fun _ => fin 5 (by decide) (Or.inr hr0))
theorem k_X8_advances (v : Mm) (hI_v : IM v)  : ok (g_X8_advances v ) (fun z => IM z ∧ (Int32.toInt (z 37 0 3) = Int32.toInt (v 37 0 3)) ∧ (Int32.toInt (z 37 0 4) = Int32.toInt (v 37 0 4)) ∧ (Int32.toInt (z 30 0 8) = Int32.toInt (v 30 0 8))) :=
  (pk.and (k_adv v hI_v) (f_X8_advances v)).mono (fun z h => ⟨h.1, congrArg _ (h.2 37 0 3 (by decide)), congrArg _ (h.2 37 0 4 (by decide)), congrArg _ (h.2 30 0 8 (by decide))⟩)
