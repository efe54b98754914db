/-! the man to send -/
def LWf (v : Mm) (w : Nat) (hour : Int32) : Int32 := if nI (pc (AGN v &&& bsN (SCB v w hour) (Int32.toNatClampNeg (v 6 0 6)))) < nI (pc (AGN v)) - nI (pc (AGN v &&& bsN (SCB v w hour) (Int32.toNatClampNeg (v 6 0 6)))) then nI (pc (AGN v)) - nI (pc (AGN v &&& bsN (SCB v w hour) (Int32.toNatClampNeg (v 6 0 6)))) else nI (pc (AGN v &&& bsN (SCB v w hour) (Int32.toNatClampNeg (v 6 0 6))))
theorem AGN_lt {v : Mm} : AGN v < 2 ^ Int32.toNatClampNeg (v 6 0 6) := bs_lt _ _
theorem AGN_64 {v : Mm} (h : (v 6 0 6).toInt ≤ 6) : AGN v < 64 := by
  have c := tcn (v 6 0 6)
  exact bs_lt64 _ (by omega)
theorem and_lt {a b n : Nat} (h : a < n) : a &&& b < n := Nat.lt_of_le_of_lt Nat.and_le_left h
theorem nI_int {k : Nat} (h : k < 1000) : (nI k).toInt = (k : Int) := nI_toInt (by omega)
theorem t_div6 : ∀ s, s < 36 → nI s / 6 = nI (s / 6) ∧ nI s - nI s / 6 * 6 = nI (s % 6) := by decide +kernel
theorem x_left {vx vm : Mm} (hR : RG5 vx) (h : RSt vx 0 vm 36 0) {w hh : Nat} (hw : (w : Int) < (vx 6 0 6).toInt) (h6 : hh < 6) : pk (g_X3_leftAtWorst vx 0 (nI (6 * w + hh)) (nI (AGN vx))) (fun r => r = LWf vx w (nI hh)) := by
  have w6 := hR.1
  have cw := tcn (vx 6 0 6)
  obtain ⟨d1, d2⟩ := t_div6 (6 * w + hh) (by omega)
  rw [show (6 * w + hh) / 6 = w by omega] at d1
  rw [show (6 * w + hh) % 6 = hh by omega] at d2
  have nw := nI_int (k := w) (by omega)
  have nh := nI_int (k := hh) (by omega)
  have cnw : Int32.toNatClampNeg (nI w) = w := by rw [tcn, nw]; omega
  unfold g_X3_leftAtWorst
  rw [d2, d1]
  refine pk_bind (x_catching hR h (w := nI w) (hour := nI hh) (by omega) (by omega)) (fun r2 er2 => ?_)
  rw [cnw] at er2
  rw [er2, t_and _ (AGN_64 w6.2) _ (bs_lt64 _ (by omega)), q_bc vx (and_lt (AGN_64 w6.2)), Option.bind_some, q_bc vx (AGN_64 w6.2), Option.bind_some, Option.bind_some]
  exact pk_some rfl
theorem LWf_rg {v : Mm} {w : Nat} {hour : Int32} (hle : pc (AGN v &&& bsN (SCB v w hour) (Int32.toNatClampNeg (v 6 0 6))) ≤ 6) : (LWf v w hour).toInt < 9 := by
  have a := nI_int (k := pc (AGN v)) (by have := pc_le (AGN v); omega)
  have b := nI_int (k := pc (AGN v &&& bsN (SCB v w hour) (Int32.toNatClampNeg (v 6 0 6)))) (by omega)
  have p := pc_le (AGN v)
  have s := sp_subx (nI (pc (AGN v))) (nI (pc (AGN v &&& bsN (SCB v w hour) (Int32.toNatClampNeg (v 6 0 6))))) (by omega)
  unfold LWf
  by_cases q : nI (pc (AGN v &&& bsN (SCB v w hour) (Int32.toNatClampNeg (v 6 0 6)))) < nI (pc (AGN v)) - nI (pc (AGN v &&& bsN (SCB v w hour) (Int32.toNatClampNeg (v 6 0 6))))
  · rw [if_pos q]; omega
  · rw [if_neg q]; omega
/-- the reference's step at a word and an hour -/
theorem man_step {vx vm : Mm} (hR : RG5 vx) (h : GB vx vm) {rec45 : Int32 → Int32 → Int32 → Int32 → Int32 → Int32 → Option Int32} {P : Int32 → Prop} {a1 x4 x5 x6 : Int32} {w hh n : Nat} (hw : (w : Int) < (vx 6 0 6).toInt) (h6 : hh < 6) (hP : pk (if x6 ≤ LWf vx w (nI hh) then g_X8_man_L59 rec45 vm a1 n (nI (AGN vx)) (nI (pc (AGN vx))) x4 x5 x6 (nI w) (nI hh + 1) else g_X8_man_L59 rec45 vm a1 n (nI (AGN vx)) (nI (pc (AGN vx))) (nI w) (nI hh) (LWf vx w (nI hh)) (nI w) (nI hh + 1)) P) : pk (g_X8_man_L59 rec45 vm a1 (n + 1) (nI (AGN vx)) (nI (pc (AGN vx))) x4 x5 x6 (nI w) (nI hh)) P := by
  have w6 := hR.1
  have cw := tcn (vx 6 0 6)
  have e6 : (6 : Int32).toInt = 6 := by decide
  have nw := nI_int (k := w) (by omega)
  have nh := nI_int (k := hh) (by omega)
  have cnw : Int32.toNatClampNeg (nI w) = w := by rw [tcn, nw]; omega
  show pk (b_X8_man_L59 rec45 (g_X8_man_L59 rec45 vm a1 n) vm a1 (nI (AGN vx)) (nI (pc (AGN vx))) x4 x5 x6 (nI w) (nI hh)) P
  unfold b_X8_man_L59
  rw [if_neg (fun q => by have := i_le q; omega)]
  refine pk_bind (m_takenOf hR h AGN_lt (w := nI w) (hour := nI hh) (by omega) (by omega)) (fun r20 er20 => ?_)
  rw [cnw] at er20
  rw [er20, q_ones vm (and_lt (AGN_64 w6.2)), Option.bind_some]
  obtain ⟨c, ec⟩ : ∃ c, c = nI (pc (AGN vx &&& bsN (SCB vx w (nI hh)) (Int32.toNatClampNeg (vx 6 0 6)))) := ⟨_, rfl⟩
  obtain ⟨al, eal⟩ : ∃ c, c = nI (pc (AGN vx)) := ⟨_, rfl⟩
  have eL : LWf vx w (nI hh) = if c < al - c then al - c else c := by rw [ec, eal]; rfl
  rw [← ec, ← eal]
  rw [← eal] at hP
  by_cases q : c ≤ al - c
  · rw [if_pos q]
    have eM : LWf vx w (nI hh) = al - c := by
      rw [eL]
      by_cases z : c < al - c
      · rw [if_pos z]
      · rw [if_neg z]
        exact Int32.toInt_inj.mp (by have := i_le q; have := i_nlt z; omega)
    rw [eM] at hP
    by_cases z : x6 ≤ al - c
    · rw [if_pos z] at hP
      rw [if_pos z, if_pos z, if_pos z]; exact hP
    · rw [if_neg z] at hP
      rw [if_neg z, if_neg z, if_neg z]; exact hP
  · rw [if_neg q]
    have eM : LWf vx w (nI hh) = c := by
      rw [eL]
      rw [if_neg (fun z => q (Int32.le_iff_toInt_le.mpr (by have := i_lt z; omega)))]
    rw [eM] at hP
    by_cases z : x6 ≤ c
    · rw [if_pos z] at hP
      rw [if_pos z, if_pos z, if_pos z]; exact hP
    · rw [if_neg z] at hP
      rw [if_neg z, if_neg z, if_neg z]; exact hP
theorem nI_sc1 (k : Nat) : nI k + 1 = nI (k + 1) := nI_add k 1
theorem t_mul6 : ∀ k, k < 7 → nI k * 6 = nI (6 * k) := by decide +kernel
set_option maxHeartbeats 4000000 in
theorem a_man {vx vm : Mm} (hJ : J2 vx vm) (a1 : Int32) : rel (g_X7_man vx a1) (g_X8_man vm a1) (fun x y => x = y) := by
  have hS := hJ.2.1.1
  have hG := hJ.2.1
  have e0 : (0 : Int32).toInt = 0 := by decide
  have e1 : (1 : Int32).toInt = 1 := by decide
  have e2 : (2 : Int32).toInt = 2 := by decide
  have e6 : (6 : Int32).toInt = 6 := by decide
  have e9 : (9 : Int32).toInt = 9 := by decide
  have hw : (0 : Int) ≤ (vx 6 0 6).toInt ∧ (vx 6 0 6).toInt ≤ (6 : Int) := hJ.1.1 6 0 6
  have ew : vx 6 0 6 = vm 36 0 3 := hS.2.2.1
  unfold g_X7_man g_X8_man
  rw [bx_nog, bm_isg vm (by rw [← ew]; exact hw.1), rng3, b_in, ← ew]
  refine rel_ite Iff.rfl (fun _ => rel_some rfl) (fun c0 => ?_)
  have c0' := i_ne c0
  refine rel_ite Iff.rfl (fun c1 => ?_) (fun _ => rel_some rfl)
  have hR := RG5.of hJ.1.1 hJ.1.2.1 hS (by omega)
  have hT := TRY5.of hJ.1.1 hR hG
  have cw := tcn (vx 6 0 6)
  obtain ⟨W, hW, eW⟩ := i_of (n := 7) hw.1 (by omega)
  have cW : Int32.toNatClampNeg (vx 6 0 6) = W := by
    have := nI_int (k := W) (by omega)
    rw [eW, tcn, this]; omega
  have iW : (vx 6 0 6).toInt = (W : Int) := by omega
  refine rel_bindL (x_agree hR (hS.kds hR.2.1.2).1 hT) (fun r er => rel_bindR (m_agree hR hG hT) (fun q eq => ?_))
  rw [er, eq, AGS_bs vx hw.2, q_ones vm (AGN_64 hw.2), Option.bind_some]
  have pcl : ∀ (w : Nat) (h : Int32), pc (AGN vx &&& bsN (SCB vx w h) (Int32.toNatClampNeg (vx 6 0 6))) ≤ 6 := fun w h => pc_le _
  -- the end of both
  have fin : ∀ (wh wn : Nat), (wh : Int) < (vx 6 0 6).toInt → wn < 6 → rel (if a1 = 2 then (Option.bind (g_X3_leftAtWorst vx 0 (nI (6 * wh + wn)) (nI (AGN vx))) (fun r16 => some r16)) else (if a1 = 0 then (some (nI (6 * wh + wn) / 6)) else (some (nI (6 * wh + wn) - nI (6 * wh + wn) / 6 * 6)))) (if a1 = 0 then (some (nI wh)) else (if a1 = 1 then (some (nI wn)) else (some (LWf vx wh (nI wn))))) (fun x y => x = y) := by
    intro wh wn h1 h2
    obtain ⟨d1, d2⟩ := t_div6 (6 * wh + wn) (by omega)
    rw [show (6 * wh + wn) / 6 = wh by omega] at d1
    rw [show (6 * wh + wn) % 6 = wn by omega] at d2
    by_cases q2 : a1 = 2
    · rw [if_pos q2, if_neg (by rw [q2]; decide), if_neg (by rw [q2]; decide)]
      exact rel_bindL (x_left hR hS h1 h2) (fun r16 er16 => rel_some er16)
    · rw [if_neg q2]
      by_cases q0 : a1 = 0
      · rw [if_pos q0, if_pos q0]; exact rel_some d1
      · have q1 : a1 = 1 := by
          have n2 := i_ne q2
          have n0 := i_ne q0
          exact Int32.toInt_inj.mp (by omega)
        rw [if_neg q0, if_neg q0, if_pos q1]; exact rel_some d2
  -- both go on from a word and an hour
  have loop : ∀ (n m k wh wn w hh : Nat), (wh : Int) < (vx 6 0 6).toInt → wn < 6 → (w : Int) < (vx 6 0 6).toInt → hh ≤ 6 → rel (Option.bind (g_X3_bestTry_L12 vx 0 (nI (AGN vx)) n (nI (6 * wh + wn)) (LWf vx wh (nI wn)) (nI (6 * w + hh))) (fun r11 => if a1 = 2 then (Option.bind (g_X3_leftAtWorst vx 0 r11 (nI (AGN vx))) (fun r16 => some r16)) else (if a1 = 0 then (some (r11 / 6)) else (some (r11 - r11 / 6 * 6))))) (g_X8_man_L59 (g_X8_man_L45 vm a1 m) vm a1 k (nI (AGN vx)) (nI (pc (AGN vx))) (nI wh) (nI wn) (LWf vx wh (nI wn)) (nI w) (nI hh)) (fun x y => x = y) := by
    intro n
    induction n with
    | zero => intro m k wh wn w hh _ _ _ _ a b e; cases e
    | succ n ih =>
      intro m k wh wn w hh h1 h2 h3 h4
      -- inside a row of hours
      have inside : ∀ (m k w hh : Nat), (w : Int) < (vx 6 0 6).toInt → hh < 6 → rel (Option.bind (g_X3_bestTry_L12 vx 0 (nI (AGN vx)) (n + 1) (nI (6 * wh + wn)) (LWf vx wh (nI wn)) (nI (6 * w + hh))) (fun r11 => if a1 = 2 then (Option.bind (g_X3_leftAtWorst vx 0 r11 (nI (AGN vx))) (fun r16 => some r16)) else (if a1 = 0 then (some (r11 / 6)) else (some (r11 - r11 / 6 * 6))))) (g_X8_man_L59 (g_X8_man_L45 vm a1 m) vm a1 k (nI (AGN vx)) (nI (pc (AGN vx))) (nI wh) (nI wn) (LWf vx wh (nI wn)) (nI w) (nI hh)) (fun x y => x = y) := by
        intro m k w hh h3 h4
        cases k with
        | zero => intro a b _ e; cases e
        | succ k =>
          have ns := nI_int (k := 6 * w + hh) (by omega)
          have t6 := t_mul6 W hW
          have n6 := nI_int (k := 6 * W) (by omega)
          refine rel_pkR (fun a ea => ?_)
          refine man_step hR hG h3 h4 (rel_toR ?_ ea)
          show rel (Option.bind (b_X3_bestTry_L12 (g_X3_bestTry_L12 vx 0 (nI (AGN vx)) n) vx 0 (nI (AGN vx)) (nI (6 * wh + wn)) (LWf vx wh (nI wn)) (nI (6 * w + hh))) _) _ _
          unfold b_X3_bestTry_L12
          rw [if_neg (fun z => by rw [eW, t6] at z; have := i_le z; omega), Option.bind_assoc]
          refine rel_bindL (x_left hR hS h3 h4) (fun r6 er6 => ?_)
          rw [er6, nI_sc1, nI_sc1]
          by_cases z : LWf vx wh (nI wn) ≤ LWf vx w (nI hh)
          · rw [if_pos z, if_pos z]
            exact ih m k wh wn w (hh + 1) h1 h2 h3 (by omega)
          · rw [if_neg z, if_neg z]
            exact ih m k w hh w (hh + 1) h3 h4 h3 (by omega)
      by_cases h6 : hh < 6
      · exact inside m k w hh h3 h6
      · have h6 : hh = 6 := by omega
        subst h6
        cases k with
        | zero => intro a b _ e; cases e
        | succ k =>
          have eL : g_X8_man_L59 (g_X8_man_L45 vm a1 m) vm a1 (k + 1) (nI (AGN vx)) (nI (pc (AGN vx))) (nI wh) (nI wn) (LWf vx wh (nI wn)) (nI w) (nI 6) = g_X8_man_L45 vm a1 m (nI (AGN vx)) (nI (pc (AGN vx))) (nI wh) (nI wn) (LWf vx wh (nI wn)) (nI w + 1) := by
            show b_X8_man_L59 (g_X8_man_L45 vm a1 m) (g_X8_man_L59 (g_X8_man_L45 vm a1 m) vm a1 k) vm a1 (nI (AGN vx)) (nI (pc (AGN vx))) (nI wh) (nI wn) (LWf vx wh (nI wn)) (nI w) (nI 6) = _
            unfold b_X8_man_L59
            rw [if_pos (by decide)]
          rw [eL, nI_sc1]
          cases m with
          | zero => intro a b _ e; cases e
          | succ m =>
            show rel _ (b_X8_man_L45 (g_X8_man_L45 vm a1 m) vm a1 (nI (AGN vx)) (nI (pc (AGN vx))) (nI wh) (nI wn) (LWf vx wh (nI wn)) (nI (w + 1))) _
            unfold b_X8_man_L45
            rw [tc_3, ← ew]
            have nw1 := nI_int (k := w + 1) (by omega)
            by_cases z : vx 6 0 6 ≤ nI (w + 1)
            · have z' := i_le z
              rw [if_pos z]
              have hw1 : w + 1 = W := by omega
              show rel (Option.bind (b_X3_bestTry_L12 (g_X3_bestTry_L12 vx 0 (nI (AGN vx)) n) vx 0 (nI (AGN vx)) (nI (6 * wh + wn)) (LWf vx wh (nI wn)) (nI (6 * w + 6))) _) _ _
              unfold b_X3_bestTry_L12
              have t6 := t_mul6 W hW
              rw [if_pos (by rw [eW, t6, show 6 * W = 6 * w + 6 by omega]; exact Int32.le_refl _), Option.bind_some]
              exact fin wh wn h1 h2
            · have z' := i_nle z
              rw [if_neg z, show 6 * w + 6 = 6 * (w + 1) + 0 by omega]
              exact inside m 2000 (w + 1) 0 (by omega) (by omega)
  -- the first man of all
  unfold g_X3_bestTry
  rw [Option.bind_assoc]
  refine rel_bindL (x_left hR hS (w := 0) (hh := 0) (by omega) (by omega)) (fun r2 er2 => ?_)
  rw [er2]
  show rel (Option.bind (g_X3_bestTry_L12 vx 0 (nI (AGN vx)) 2000 (nI (6 * 0 + 0)) (LWf vx 0 (nI 0)) (nI (6 * 0 + 1))) _) (b_X8_man_L45 (g_X8_man_L45 vm a1 1999) vm a1 (nI (AGN vx)) (nI (pc (AGN vx))) 0 0 9 0) _
  unfold b_X8_man_L45
  rw [tc_3, ← ew, if_neg (fun z => by have := i_le z; omega)]
  refine rel_pkR (fun a ea => ?_)
  show pk (g_X8_man_L59 (g_X8_man_L45 vm a1 1999) vm a1 (1999 + 1) (nI (AGN vx)) (nI (pc (AGN vx))) 0 0 9 (nI 0) (nI 0)) _
  refine man_step hR hG (w := 0) (hh := 0) (by omega) (by omega) (rel_toR ?_ ea)
  rw [if_neg (fun z => by have := i_le z; have := LWf_rg (pcl 0 (nI 0)); omega), nI_sc1]
  exact loop 2000 1999 1999 0 0 0 1 (by omega) (by omega) (by omega) (by omega)
