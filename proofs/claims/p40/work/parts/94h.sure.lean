/-! how sure one gets in: lowest terms on both sides -/
theorem rem_nI {x y : Nat} (hx : x ≤ 1000) (hy : 0 < y) (hy2 : y ≤ 1000) : nI x - nI x / nI y * nI y = nI (x % y) := by
  have ix := nI_toInt (n := x) (by omega)
  have iy := nI_toInt (n := y) (by omega)
  have s := sp_rem (a := nI x) (b := nI y) (by omega) (by omega)
  have im := nI_toInt (n := x % y) (by have := Nat.mod_lt x hy; omega)
  refine Int32.toInt_inj.mp ?_
  rw [s.1, ix, iy, im]
  omega
theorem rem_zero {x y : Nat} (hx : x ≤ 1000) (hy : 0 < y) (hy2 : y ≤ 1000) : (nI x - nI x / nI y * nI y = 0) ↔ y ∣ x := by
  rw [rem_nI hx hy hy2]
  have im := nI_toInt (n := x % y) (by have := Nat.mod_lt x hy; omega)
  have e0 : (0 : Int32).toInt = 0 := by decide
  refine ⟨fun q => ?_, fun q => ?_⟩
  · have := i_eq q
    exact Nat.dvd_of_mod_eq_zero (by omega)
  · refine Int32.toInt_inj.mp ?_
    rw [im, e0, Nat.mod_eq_zero_of_dvd q]; rfl
theorem div_nI {x y : Nat} (hx : x ≤ 1000) (hy : 0 < y) (hy2 : y ≤ 1000) : nI x / nI y = nI (x / y) := by
  have ix := nI_toInt (n := x) (by omega)
  have iy := nI_toInt (n := y) (by omega)
  have s := sp_div (a := nI x) (b := nI y) (by omega) (by omega)
  have im := nI_toInt (n := x / y) (by have := Nat.div_le_self x y; omega)
  refine Int32.toInt_inj.mp ?_
  rw [s, ix, iy, im]
  omega
theorem x_gcd (v : Mm) {x y : Nat} (hx : x ≤ 1000) (hy : 0 < y) (hy2 : y ≤ 1000) : pk (g_X7_commonDivisor v (nI x) (nI y)) (fun r => r = nI (Nat.gcd x y)) := by
  have e1 : (1 : Int32).toInt = 1 := by decide
  have em1 : (-1 : Int32).toInt = -1 := by decide
  have gp : 0 < Nat.gcd x y := Nat.gcd_pos_of_pos_right x hy
  have gx : Nat.gcd x y ∣ x := Nat.gcd_dvd_left x y
  have gy : Nat.gcd x y ∣ y := Nat.gcd_dvd_right x y
  have gl : Nat.gcd x y ≤ y := Nat.le_of_dvd hy gy
  have loop : ∀ (n : Nat) (d : Nat), d ≤ y → Nat.gcd x y ≤ d → pk (g_X7_commonDivisor_L2 v (nI x) (nI y) n (nI d)) (fun r => r = nI (Nat.gcd x y)) := by
    intro n
    induction n with
    | zero => intro d _ _ b e; cases e
    | succ n ih =>
      intro d hd hg
      have id_ := nI_toInt (n := d) (by omega)
      show pk (b_X7_commonDivisor_L2 (g_X7_commonDivisor_L2 v (nI x) (nI y) n) v (nI x) (nI y) (nI d)) _
      unfold b_X7_commonDivisor_L2
      refine pk_ite _ (fun c => ?_) (fun c => ?_)
      · have := i_le c
        refine pk_some ?_
        have : Nat.gcd x y = 1 := by omega
        rw [this]; rfl
      · have c' := i_nle c
        have next : ¬ (d ∣ x ∧ d ∣ y) → pk (g_X7_commonDivisor_L2 v (nI x) (nI y) n (nI d + (-1))) (fun r => r = nI (Nat.gcd x y)) := by
          intro hnd
          have ed : nI d + (-1) = nI (d - 1) := by
            have s := sp_addx (nI d) (-1) (by omega)
            have i2 := nI_toInt (n := d - 1) (by omega)
            exact Int32.toInt_inj.mp (by omega)
          rw [ed]
          refine ih (d - 1) (by omega) ?_
          have ne : Nat.gcd x y ≠ d := fun q => hnd ⟨q ▸ gx, q ▸ gy⟩
          omega
        refine pk_grd _ (fun _ => pk_ite _ (fun c2 => pk_grd _ (fun _ => pk_ite _ (fun c3 => ?_) (fun c3 => ?_))) (fun c2 => ?_))
        · have dx := (rem_zero hx (by omega) (by omega)).mp c2
          have dy := (rem_zero (x := y) (y := d) (by omega) (by omega) (by omega)).mp c3
          have dg := Nat.le_of_dvd gp (Nat.dvd_gcd dx dy)
          have : Nat.gcd x y = d := by omega
          rw [this]
          exact pk_some rfl
        · exact next (fun q => c3 ((rem_zero (x := y) (y := d) (by omega) (by omega) (by omega)).mpr q.2))
        · exact next (fun q => c2 ((rem_zero hx (by omega) (by omega)).mpr q.1))
  unfold g_X7_commonDivisor
  exact loop 2000 y (Nat.le_refl y) gl
theorem m_gcd (v : Mm) (a1 a2 a3 a4 x5 x6 x7 x8 : Int32) : ∀ (n x y : Nat), x ≤ 1000 → y ≤ 1000 → pk (g_X8_sure_L102 v a1 a2 a3 a4 n x5 x6 x7 x8 (nI x) (nI y)) (fun r => r = if a4 = 0 then x7 / nI (Nat.gcd x y) else x8 / nI (Nat.gcd x y)) := by
  intro n
  induction n with
  | zero => intro x y _ _ b e; cases e
  | succ n ih =>
    intro x y hx hy
    have iy := nI_toInt (n := y) (by omega)
    have e0 : (0 : Int32).toInt = 0 := by decide
    show pk (b_X8_sure_L102 (g_X8_sure_L102 v a1 a2 a3 a4 n) v a1 a2 a3 a4 x5 x6 x7 x8 (nI x) (nI y)) _
    unfold b_X8_sure_L102
    by_cases c : nI y = 0
    · have y0 : y = 0 := by have := i_eq c; omega
      subst y0
      rw [if_pos c, Nat.gcd_zero_right]
      by_cases q : a4 = 0
      · rw [if_pos q, if_pos q]; exact pk_grd _ (fun _ => pk_some rfl)
      · rw [if_neg q, if_neg q]; exact pk_grd _ (fun _ => pk_some rfl)
    · have yp : 0 < y := by
        cases y with
        | zero => exact absurd rfl c
        | succ y => omega
      rw [if_neg c, if_neg c, rem_nI hx yp hy]
      have := ih y (x % y) hy (by have := Nat.mod_lt x yp; omega)
      rw [Nat.gcd_comm y (x % y), ← Nat.gcd_rec, Nat.gcd_comm y x] at this
      exact this
theorem t_pc0 : ∀ a, a < 64 → (nI (pc a) = 0 ↔ nI a = 0) := by decide +kernel
theorem le01 (x y : Bool) : (if (x && y) = true then 1 else 0 : Nat) ≤ (if x = true then 1 else 0) := by cases x <;> cases y <;> decide
theorem pc_and (a b : Nat) : pc (a &&& b) ≤ pc a := by
  have h : ∀ i, (a &&& b).testBit i = (a.testBit i && b.testBit i) := fun i => Nat.testBit_and a b i
  have h0 := le01 (a.testBit 0) (b.testBit 0)
  have h1 := le01 (a.testBit 1) (b.testBit 1)
  have h2 := le01 (a.testBit 2) (b.testBit 2)
  have h3 := le01 (a.testBit 3) (b.testBit 3)
  have h4 := le01 (a.testBit 4) (b.testBit 4)
  have h5 := le01 (a.testBit 5) (b.testBit 5)
  unfold pc
  rw [h, h, h, h, h, h]
  omega
theorem t_abv : ∀ P, P < 7 → ∀ c, c ≤ P → ∀ k, k < 11 → ((nI P - nI c) * 10) + (nI c * nI k) = nI ((P - c) * 10 + c * k) ∧ (nI c * nI k) + ((nI P - nI c) * 10) = nI ((P - c) * 10 + c * k) ∧ (P - c) * 10 + c * k ≤ 60 := by decide +kernel
theorem t_blw : ∀ P, P < 7 → nI P * 10 = nI (P * 10) ∧ (10 : Int32) * nI P = nI (P * 10) := by decide +kernel
theorem q_low (v : Mm) {x g : Nat} (hg : 0 < g) (hg2 : g ≤ 1000) : g_X7_lowest v (nI x) (nI g) = some (nI x / nI g) := by
  have ig := nI_toInt (n := g) (by omega)
  have e0 : (0 : Int32).toInt = 0 := by decide
  unfold g_X7_lowest
  rw [if_neg (fun q => by have := i_le q; omega), if_neg (nz (by omega))]
theorem a_sure {vx vm : Mm} (hJ : J2 vx vm) (a1 a2 a3 a4 : Int32) : rel (g_X7_sure vx a1 a2 a3 a4) (g_X8_sure vm a1 a2 a3 a4) (fun x y => x = y) := by
  have hS := hJ.2.1.1
  have hG := hJ.2.1
  have e0 : (0 : Int32).toInt = 0 := by decide
  have e10 : (10 : Int32).toInt = 10 := by decide
  have hw : (0 : Int) ≤ (vx 6 0 6).toInt ∧ (vx 6 0 6).toInt ≤ (6 : Int) := hJ.1.1 6 0 6
  have ew : vx 6 0 6 = vm 36 0 3 := hS.2.2.1
  unfold g_X7_sure g_X8_sure
  rw [bx_word, bm_word vm (by rw [← ew]; exact hw.1), bx_hour, bm_hour, rng2, rng3, b_in, b_in, ← ew]
  refine rel_ite Iff.rfl (fun c1 => ?_) (fun _ => rel_some rfl)
  refine rel_ite Iff.rfl (fun c2 => ?_) (fun _ => rel_some rfl)
  refine rel_ite Iff.rfl (fun c3 => ?_) (fun _ => rel_some rfl)
  refine rel_ite Iff.rfl (fun c4 => ?_) (fun _ => rel_some rfl)
  have hR := RG5.of hJ.1.1 hJ.1.2.1 hS (by omega)
  have hT := TRY5.of hJ.1.1 hR hG
  have cw := tcn (vx 6 0 6)
  obtain ⟨k, hk, ek⟩ := i_of (n := 11) (x := a3) (by omega) (by omega)
  refine rel_bindL (x_agree hR (hS.kds hR.2.1.2).1 hT) (fun r14 er14 => rel_bindR (m_agree hR hG hT) (fun r18 er18 => ?_))
  rw [er14, er18, AGS_bs vx hw.2, q_bc vx (AGN_64 hw.2), Option.bind_some, ek]
  refine rel_bindL (x_catching hR hS c1 c2) (fun r20 er20 => rel_bindR (m_takenOf hR hG AGN_lt c1 c2) (fun r21 er21 => ?_))
  rw [er20, er21, t_and _ (AGN_64 hw.2) _ (bs_lt64 _ (by omega)), q_bc vx (and_lt (AGN_64 hw.2)), Option.bind_some, q_ones vm (and_lt (AGN_64 hw.2)), Option.bind_some, q_ones vm (AGN_64 hw.2), Option.bind_some, Option.bind_some]
  have hcP := pc_and (AGN vx) (bsN (SCB vx (Int32.toNatClampNeg a1) a2) (Int32.toNatClampNeg (vx 6 0 6)))
  have hP := pc_le (AGN vx)
  have tz := t_pc0 (AGN vx) (AGN_64 hw.2)
  obtain ⟨c, ec⟩ : ∃ c, c = pc (AGN vx &&& bsN (SCB vx (Int32.toNatClampNeg a1) a2) (Int32.toNatClampNeg (vx 6 0 6))) := ⟨_, rfl⟩
  obtain ⟨P, eP⟩ : ∃ c, c = pc (AGN vx) := ⟨_, rfl⟩
  rw [← ec, ← eP] at hcP
  rw [← eP] at hP tz
  rw [← ec, ← eP]
  obtain ⟨b1, b2, b3⟩ := t_abv P (by omega) c hcP k hk
  obtain ⟨b4, b5⟩ := t_blw P (by omega)
  rw [b1, b2, b4, b5]
  obtain ⟨N, eN⟩ : ∃ n, n = (P - c) * 10 + c * k := ⟨_, rfl⟩
  rw [← eN] at b3 ⊢
  have done : ∀ M : Nat, 0 < M → M ≤ 60 → rel (if a4 = 0 then (Option.bind (g_X7_commonDivisor vx (nI N) (nI M)) (fun r47 => Option.bind (g_X7_lowest vx (nI N) r47) (fun r50 => some r50))) else (Option.bind (g_X7_commonDivisor vx (nI N) (nI M)) (fun r41 => Option.bind (g_X7_lowest vx (nI M) r41) (fun r44 => some r44)))) (g_X8_sure_L102 vm a1 a2 (nI k) a4 2000 (nI (AGN vx)) (nI c) (nI N) (nI M) (nI N) (nI M)) (fun x y => x = y) := by
    intro M h1 h2
    have gp : 0 < Nat.gcd N M := Nat.gcd_pos_of_pos_right N h1
    have gl : Nat.gcd N M ≤ M := Nat.le_of_dvd h1 (Nat.gcd_dvd_right N M)
    refine rel_pkR (fun a ea => (m_gcd vm a1 a2 (nI k) a4 (nI (AGN vx)) (nI c) (nI N) (nI M) 2000 N M (by omega) (by omega)).mono (fun b eb => ?_))
    show a = b
    rw [eb]
    by_cases q : a4 = 0
    · rw [if_pos q] at ea ⊢
      have := (pk_bind (x_gcd vx (x := N) (y := M) (by omega) h1 (by omega)) (fun r er => by
        rw [er, q_low vx gp (by omega), Option.bind_some]
        exact pk_some rfl) : pk (Option.bind (g_X7_commonDivisor vx (nI N) (nI M)) (fun r47 => Option.bind (g_X7_lowest vx (nI N) r47) (fun r50 => some r50))) (fun z => z = nI N / nI (Nat.gcd N M)))
      exact this a ea
    · rw [if_neg q] at ea ⊢
      have := (pk_bind (x_gcd vx (x := N) (y := M) (by omega) h1 (by omega)) (fun r er => by
        rw [er, q_low vx gp (by omega), Option.bind_some]
        exact pk_some rfl) : pk (Option.bind (g_X7_commonDivisor vx (nI N) (nI M)) (fun r41 => Option.bind (g_X7_lowest vx (nI M) r41) (fun r44 => some r44))) (fun z => z = nI M / nI (Nat.gcd N M)))
      exact this a ea
  refine rel_ite tz (fun _ => done 1 (by omega) (by omega)) (fun z => ?_)
  have Pp : 0 < P := by
    cases P with
    | zero => exact absurd rfl z
    | succ P => omega
  exact done (P * 10) (by omega) (by omega)
