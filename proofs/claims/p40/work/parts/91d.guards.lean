/-! a word, a guard -/
theorem st_word {vx vm ux um : Mm} (hI : INV vx vm) (hD : DR vx vm) (hw : hereF vx = 119) (fx : FPX ux vx) (fm : FPM um vm) : rel (g_X6_readWord vx) (g_X8_readsWord vm) (PST (vx 6 1 6 + 1) (vx 6 1 7) ux um) := by
  have e1 : (1 : Int32).toInt = 1 := by decide
  have e6 : (6 : Int32).toInt = 6 := by decide
  rw [q_readsWord]
  unfold g_X6_readWord rwA
  refine rel_bindL (p_here vx) (fun r er => ?_)
  rw [er, hw, if_pos rfl, tc_3, ← hD.1.1]
  refine rel_iteL _ (fun c => ?_) (fun c => ?_)
  · have c' := i_lt c
    rw [if_neg (fun q => by have := i_le q; omega)]
    refine sg vx 119 (fun _ => ?_) (fun q => absurd hw q)
    rw [if_neg (by decide)]
    have hh := hI.here
    have i2 := hI.2.1
    have i3 := hI.2.2.1
    have hw' : (hereF vx).toInt = 119 := by rw [hw]; decide
    have ex := sp_addx (vx 4 0 5) 1 (by omega)
    obtain ⟨w, ew⟩ : ∃ w, w = up3 vx 4 0 5 (vx 4 0 5 + 1) := ⟨_, rfl⟩
    rw [← ew]
    have w5 : w 4 0 5 = vx 4 0 5 + 1 := by rw [ew]; exact up3_s
    have FF : FR [305] vx w := by rw [ew]; exact (FR.refl _ _).upf (by decide)
    have w6 : ∀ j, w 6 1 j = vx 6 1 j := fun j => FF 6 1 j rfl
    refine tk_ok hI FF (by decide) ?_ (by rw [w5]; omega) (by rw [w5]; omega) (fun vm' k1 k2 => ?_)
    · rcases hI.tok with ⟨-, -, -, q⟩ | ⟨q, -⟩
      · rw [hw, if_neg (by decide)] at q
        rw [w5, q]
      · unfold fig at q; omega
    · have hD' : DR w vm' := hD.fr FF k2 (by decide) (by decide)
      unfold rwK
      rw [tc_3, ← hD'.1.1, w6, if_neg (fun q => by have := i_le q; omega)]
      show rel _ (rwL ((8 : Int32) + ((3 : Int32) * (vx 6 1 6))) vm') _
      rw [← w6 6, ← w6 7]
      exact st_abc k1 hD' (by rw [w6]; omega) (fx.tr (FPX.of FF (by decide))) (fm.tr (FPM.of k2 (by decide)))
  · have c' := i_nlt c
    rw [if_pos (Int32.le_iff_toInt_le.mpr (by omega)), kb2_id, q_faulty]
    refine tk_bad hI (flt_fr vx 3) (by decide) (flt_3 vx 3) (flt_4 vx 3) (fun vm' h1 h2 => ?_)
    exact rel_badR (s_rwK h1.2.2.2) (rel_some ⟨Or.inr ⟨rfl, h1, fm.flt h2⟩, fx.tr (FPX.of (flt_fr vx 3) (by decide))⟩)
def kdf (c : Int32) : Int32 := if c = 107 then 1 else if c = 115 then 2 else if c = 101 then 3 else if c = 100 then 4 else if c = 103 then 5 else 0
theorem q_X8_kindOf (v : Mm) (c : Int32) : g_X8_kindOf v c = some (kdf c) := by
  unfold g_X8_kindOf kdf
  repeat' split
  all_goals rfl
theorem kdf_cases (c : Int32) : (c = 107 ∧ kdf c = 1) ∨ (c = 115 ∧ kdf c = 2) ∨ (c = 101 ∧ kdf c = 3) ∨ (c = 100 ∧ kdf c = 4) ∨ (c = 103 ∧ kdf c = 5) ∨ ((c ≠ 107 ∧ c ≠ 115 ∧ c ≠ 101 ∧ c ≠ 100 ∧ c ≠ 103) ∧ kdf c = 0) := by
  by_cases h1 : c = 107
  · subst h1; exact Or.inl ⟨rfl, by decide⟩
  by_cases h2 : c = 115
  · subst h2; exact Or.inr (Or.inl ⟨rfl, by decide⟩)
  by_cases h3 : c = 101
  · subst h3; exact Or.inr (Or.inr (Or.inl ⟨rfl, by decide⟩))
  by_cases h4 : c = 100
  · subst h4; exact Or.inr (Or.inr (Or.inr (Or.inl ⟨rfl, by decide⟩)))
  by_cases h5 : c = 103
  · subst h5; exact Or.inr (Or.inr (Or.inr (Or.inr (Or.inl ⟨rfl, by decide⟩))))
  refine Or.inr (Or.inr (Or.inr (Or.inr (Or.inr ⟨⟨h1, h2, h3, h4, h5⟩, ?_⟩))))
  unfold kdf
  rw [if_neg h1, if_neg h2, if_neg h3, if_neg h4, if_neg h5]
theorem q_X6_kindOf (v : Mm) (c : Int32) : g_X6_kindOf v c = some (if kdf c = 0 then (-1000000) else kdf c) := by
  rcases kdf_cases c with ⟨h, -⟩ | ⟨h, -⟩ | ⟨h, -⟩ | ⟨h, -⟩ | ⟨h, -⟩ | ⟨h, k⟩
  · subst h; rfl
  · subst h; rfl
  · subst h; rfl
  · subst h; rfl
  · subst h; rfl
  · rw [k, if_pos rfl]
    unfold g_X6_kindOf
    rw [if_neg h.2.2.2.1, if_neg h.2.2.1, if_neg h.2.2.2.2, if_neg h.1, if_neg h.2.1]
theorem kdf_rg {c : Int32} (h : ¬ kdf c = 0) : (97 ≤ c.toInt ∧ c.toInt ≤ 122) ∧ 1 ≤ (kdf c).toInt ∧ (kdf c).toInt ≤ 5 ∧ kdf c ≠ -1000000 := by
  rcases kdf_cases c with ⟨h, k⟩ | ⟨h, k⟩ | ⟨h, k⟩ | ⟨h, k⟩ | ⟨h, k⟩ | ⟨-, k⟩
  · subst h; decide
  · subst h; decide
  · subst h; decide
  · subst h; decide
  · subst h; decide
  · exact absurd k h
def rgF (k kind fee : Int32) (v : Mm) : Option Mm := Option.bind (g_X8_isWell v) (fun r30 => if r30 = 0 then (some v) else (if k < 0 ∨ 65 ≤ Int32.toNatClampNeg k then none else (Option.bind (some (up3 v 37 0 (Int32.toNatClampNeg k) kind)) (fun v34 => if k + 1 < 0 ∨ 65 ≤ Int32.toNatClampNeg (k + 1) then none else (Option.bind (some (up3 v34 37 0 (Int32.toNatClampNeg (k + 1)) fee)) (fun v36 => Option.bind (some (up3 v36 37 0 (Int32.toNatClampNeg 6) ((v36 37 0 (Int32.toNatClampNeg 6)) ||| ((1 : Int32) <<< ((v36 37 0 (Int32.toNatClampNeg 4)) &&& 31))))) (fun v37 => Option.bind (some (up3 v37 37 0 (Int32.toNatClampNeg 4) ((v37 37 0 (Int32.toNatClampNeg 4)) + 1))) (fun v38 => some v38))))))))
def rgE (k kind fee : Int32) (w : Mm) : Option Mm := if w 30 0 11 = 4 then (kb2 (g_X8_takes w 1 1) (fun _ u => rgF k kind fee u)) else (kb2 (g_X8_takes w 0 1) (fun _ u => rgF k kind fee u))
def rgS (k kind : Int32) (v : Mm) : Option Mm := kb2 (g_X8_figure v 0 9) (fun fee w => rgE k kind fee w)
def rgK (kind : Int32) (v : Mm) : Option Mm := if 4 ≤ v 37 0 (Int32.toNatClampNeg 4) then rgS ((26 : Int32) + ((3 : Int32) * 0)) kind v else (Option.bind (some ((26 : Int32) + ((3 : Int32) * (v 37 0 (Int32.toNatClampNeg 4))))) (fun x => rgS x kind v))
def rgA (v : Mm) : Option Mm := Option.bind (g_X8_kindOf v (v 30 0 12)) (fun r2 => if 4 ≤ v 37 0 (Int32.toNatClampNeg 4) then (kb2 (g_X8_takes v 0 3) (fun _ w => rgK r2 w)) else (kb2 (g_X8_takes v 1 3) (fun _ w => rgK r2 w)))
set_option maxRecDepth 100000 in
set_option maxHeartbeats 4000000 in
theorem q_readsGuard (v : Mm) : g_X8_readsGuard v = rgA v := rfl
theorem s_rgF {v : Mm} (h : 0 ≤ (v 30 0 8).toInt) (k a b : Int32) : rgF k a b v = some v := by
  unfold rgF; rw [q_ill h]; rfl
theorem s_rgE {v : Mm} (h : 0 ≤ (v 30 0 8).toInt) (k a b : Int32) : rgE k a b v = some v := by
  unfold rgE
  simp only [q_takes_s h, kb2_sm, s_rgF h, ite_self]
theorem s_rgS {v : Mm} (h : 0 ≤ (v 30 0 8).toInt) (k a : Int32) : rgS k a v = some v := by
  unfold rgS
  rw [s_figure h]
  exact s_rgE h k a 0
theorem s_rgK {v : Mm} (h : 0 ≤ (v 30 0 8).toInt) (a : Int32) : rgK a v = some v := by
  unfold rgK
  by_cases c : 4 ≤ v 37 0 (Int32.toNatClampNeg 4)
  · rw [if_pos c]; exact s_rgS h _ a
  · rw [if_neg c]; exact s_rgS h _ a
theorem t_allg : ∀ g, g < 4 → allg (nI g) ||| ((1 : Int32) <<< (nI g &&& 31)) = allg (nI g + 1) := by decide +kernel
theorem allg_up {g : Int32} (h0 : 0 ≤ g.toInt) (h3 : g.toInt < 4) : allg g ||| ((1 : Int32) <<< (g &&& 31)) = allg (g + 1) := by
  obtain ⟨j, hj, rfl⟩ := i_of (n := 4) h0 h3
  exact t_allg j hj
set_option maxHeartbeats 4000000 in
theorem st_guard {vx vm ux um : Mm} (hI : INV vx vm) (hD : DR vx vm) (hk : ¬ kdf (hereF vx) = 0) (fx : FPX ux vx) (fm : FPM um vm) : rel (g_X6_readGuard vx) (g_X8_readsGuard vm) (PST (vx 6 1 6) (vx 6 1 7 + 1) ux um) := by
  have e1 : (1 : Int32).toInt = 1 := by decide
  have e4 : (4 : Int32).toInt = 4 := by decide
  obtain ⟨kl, k1, k5, kN⟩ := kdf_rg hk
  have h1t := hI.letter.mpr kl
  have hh := hI.here
  have i2 := hI.2.1
  have i3 := hI.2.2.1
  rw [q_readsGuard]
  unfold g_X6_readGuard rgA
  refine rel_bindL (p_here vx) (fun r er => ?_)
  rw [er, q_X6_kindOf, if_neg hk, q_X8_kindOf, hI.lval h1t]
  obtain ⟨KD, eKD⟩ : ∃ K, K = kdf (hereF vx) := ⟨_, rfl⟩
  rw [← eKD] at k1 k5 kN ⊢
  show rel (if KD = -1000000 then _ else _) (if _ then _ else _) _
  rw [if_neg kN, tc_4, ← hD.2.1.1]
  refine rel_iteL _ (fun c => ?_) (fun c => ?_)
  rotate_left
  · have c' := i_nlt c
    rw [if_pos (Int32.le_iff_toInt_le.mpr (by omega)), kb2_id, q_faulty]
    refine tk_bad hI (flt_fr vx 3) (by decide) (flt_3 vx 3) (flt_4 vx 3) (fun vm' h1 h2 => ?_)
    rw [s_rgK h1.2.2.2]
    exact rel_some ⟨Or.inr ⟨rfl, h1, fm.flt h2⟩, fx.tr (FPX.of (flt_fr vx 3) (by decide))⟩
  have c' := i_lt c
  rw [if_neg (fun q => by have := i_le q; omega)]
  refine rel_letL (fun w ew => ?_)
  have ex := sp_addx (vx 4 0 5) 1 (by omega)
  have w5 : w 4 0 5 = vx 4 0 5 + 1 := by rw [ew]; exact up3_s
  have FF : FR [305] vx w := by rw [ew]; exact (FR.refl _ _).upf (by decide)
  refine tk_ok hI FF (by decide) ?_ (by rw [w5]; omega) (by rw [w5]; omega) (fun vm' i1 f1 => ?_)
  · rcases hI.tok with ⟨-, q2, -, q⟩ | ⟨q, -⟩
    · rw [if_neg (by rw [← q2, h1t]; decide)] at q
      rw [w5, q]
    · unfold fig at q; omega
  have hD' : DR w vm' := hD.fr FF f1 (by decide) (by decide)
  have w6 : ∀ j, w 6 1 j = vx 6 1 j := fun j => FF 6 1 j rfl
  have fxw : FPX ux w := fx.tr (FPX.of FF (by decide))
  have fmw : FPM um vm' := fm.tr (FPM.of f1 (by decide))
  unfold rgK
  rw [tc_4, ← hD'.2.1.1, w6, if_neg (fun q => by have := i_le q; omega)]
  show rel _ (rgS ((26 : Int32) + ((3 : Int32) * (vx 6 1 7))) KD vm') _
  unfold rgS
  refine st_num i1 (fun a m ia fa fb n0 n9 => ?_) (fun a m ia fa fb => ?_)
  rotate_left
  · rw [if_pos rfl, s_rgE ia.2.2.2]
    exact rel_some ⟨Or.inr ⟨rfl, ia, fmw.flt fb⟩, fxw.tr (FPX.of fa (by decide))⟩
  rw [if_neg (by decide)]
  have a6 : ∀ j, a 6 1 j = vx 6 1 j := fun j => (fa 6 1 j rfl).trans (w6 j)
  have hDa : DR a m := hD'.fr fa fb (by decide) (by decide)
  refine rel_grdL _ (fun _ => rel_letL (fun b eb => rel_grdL _ (fun _ => rel_letL (fun d ed => rel_letL (fun f ef => ?_)))))
  have b6 : ∀ j, b 6 1 j = vx 6 1 j := fun j => by rw [eb, up3_t (by decide)]; exact a6 j
  have b46 : b 4 0 6 = a 4 0 6 := by rw [eb]; exact up3_t (by decide)
  have d6 : ∀ j, d 6 1 j = vx 6 1 j := fun j => by rw [ed, up3_t (by decide)]; exact b6 j
  rw [a6] at eb
  rw [b6, b46] at ed
  rw [d6] at ef
  have Ff : FR [6, 8, 9] a f := by
    rw [ef]
    refine FR.upa ?_ (by decide) (by decide)
    rw [ed]
    refine FR.upa ?_ (by decide) (by decide)
    rw [eb]
    exact (FR.refl _ _).upa (by decide) (by decide)
  have fpf : FPX a f := by
    rw [ef]
    refine FPX.tr ?_ (FPX.up (Or.inr (by decide)))
    rw [ed]
    refine FPX.tr ?_ (FPX.up (Or.inr (by decide)))
    rw [eb]
    exact FPX.up (Or.inr (by decide))
  have IF : INV f m := ia.fr Ff (FR.refl [] _) (by decide) (by decide)
  have fxf : FPX ux f := (fxw.tr (FPX.of fa (by decide))).tr fpf
  have fmf : FPM um m := fmw.tr (FPM.of fb (by decide))
  unfold rgE
  refine st_sign IF (by unfold fig; decide) (by decide) IF.stop (fun vx' m' i5 f5 f6 => ?_) (fun vx' m' i5 f5 f6 => ?_)
  rotate_left
  · show rel (some (0, vx')) (rgF _ KD _ m') _
    rw [s_rgF i5.2.2.2]
    exact rel_some ⟨Or.inr ⟨rfl, i5, fmf.flt f6⟩, fxf.tr (FPX.of f5 (by decide))⟩
  unfold rgF
  rw [q_well i5.2.2.2.2.2.1, bind1]
  obtain ⟨⟨w1, w2, w3, w4⟩, ⟨g1, g2, g3, g4, g5, g6⟩, z1, z2, z3, z4, z5⟩ := hDa
  rw [a6] at w1 w2 w3 w4 g1 g2 g3 g4 g5 z2 z3
  have t7 := tcn (vx 6 1 7)
  obtain ⟨x1, x2, -⟩ := ixm (x := vx 6 1 7) (k := Int32.toNatClampNeg (vx 6 1 7)) 26 26 (by decide) (by omega) (by omega) (by omega)
  rw [x1, x2, tc_6, tc_4]
  refine rel_grdR _ (fun _ => rel_letR (fun m1 em1 => rel_grdR _ (fun _ => rel_letR (fun m2 em2 => rel_letR (fun m3 em3 => rel_letR (fun m4 em4 => ?_))))))
  have v6 : ∀ j, j ≠ 7 → vx' 6 1 j = vx 6 1 j := fun j hj => by rw [f5 6 1 j rfl, ef, up3_j hj]; exact d6 j
  have v67 : vx' 6 1 7 = vx 6 1 7 + 1 := by rw [f5 6 1 7 rfl, ef]; exact up3_s
  have v7 : ∀ j, vx' 7 1 j = a 7 1 j := fun j => by rw [f5 7 1 j rfl, ef, up3_t (by decide), ed, up3_t (by decide), eb, up3_t (by decide)]
  have v10 : ∀ j, vx' 10 1 j = a 10 1 j := fun j => by rw [f5 10 1 j rfl, ef, up3_t (by decide), ed, up3_t (by decide), eb, up3_t (by decide)]
  have v8 : ∀ j, j ≠ Int32.toNatClampNeg (vx 6 1 7) → vx' 8 1 j = a 8 1 j := fun j hj => by rw [f5 8 1 j rfl, ef, up3_t (by decide), ed, up3_t (by decide), eb, up3_j hj]
  have v8s : vx' 8 1 (Int32.toNatClampNeg (vx 6 1 7)) = KD := by rw [f5 8 1 _ rfl, ef, up3_t (by decide), ed, up3_t (by decide), eb]; exact up3_s
  have v9 : ∀ j, j ≠ Int32.toNatClampNeg (vx 6 1 7) → vx' 9 1 j = a 9 1 j := fun j hj => by rw [f5 9 1 j rfl, ef, up3_t (by decide), ed, up3_j hj, eb, up3_t (by decide)]
  have v9s : vx' 9 1 (Int32.toNatClampNeg (vx 6 1 7)) = a 4 0 6 := by rw [f5 9 1 _ rfl, ef, up3_t (by decide), ed]; exact up3_s
  have m'm : ∀ j, m' 37 0 j = m 37 0 j := fun j => f6 37 0 j rfl
  have m24 : m2 37 0 4 = vx 6 1 7 := by rw [em2, up3_j (by omega), em1, up3_j (by omega), m'm]; exact g1.symm
  have m26 : m2 37 0 6 = allg (vx 6 1 7) := by rw [em2, up3_j (by omega), em1, up3_j (by omega), m'm]; exact g5
  have m34 : m3 37 0 4 = vx 6 1 7 := by rw [em3, up3_j (by decide)]; exact m24
  rw [m26, m24, allg_up g2 c'] at em3
  rw [m34] at em4
  have mm : ∀ j, j ≠ 4 → j ≠ 6 → j ≠ 26 + 3 * Int32.toNatClampNeg (vx 6 1 7) → j ≠ 26 + 3 * Int32.toNatClampNeg (vx 6 1 7) + 1 → m4 37 0 j = m 37 0 j := fun j h1 h2 h3 h4 => by
    rw [em4, up3_j h1, em3, up3_j h2, em2, up3_j h4, em1, up3_j h3]; exact m'm j
  have F3 : FR [37] m' m4 := by rw [em4, em3, em2, em1]; exact ((((FR.refl _ _).upa (by decide) (by decide)).upa (by decide) (by decide)).upa (by decide) (by decide)).upa (by decide) (by decide)
  have eg := sp_addx (vx 6 1 7) 1 (by omega)
  refine rel_some ⟨Or.inl ⟨rfl, ⟨i5.fr (FR.refl [] _) F3 (by decide) (by decide), ⟨?_, ?_, ?_, ?_⟩, ⟨?_, ?_, ?_, ?_, ?_, ?_⟩, ?_, ?_, ?_, ?_, ?_⟩, v6 6 (by decide), v67, ?_⟩, ?_⟩
  · show vx' 6 1 6 = m4 37 0 3
    rw [v6 6 (by decide), mm 3 (by omega) (by omega) (by omega) (by omega)]; exact w1
  · show 0 ≤ (vx' 6 1 6).toInt
    rw [v6 6 (by decide)]; exact w2
  · show (vx' 6 1 6).toInt ≤ 6
    rw [v6 6 (by decide)]; exact w3
  · intro j hj
    have hj : (j : Int) < 3 * (vx' 6 1 6).toInt := hj
    rw [v6 6 (by decide)] at hj
    show vx' 7 1 j = m4 37 0 (8 + j)
    rw [v7, mm (8 + j) (by omega) (by omega) (by omega) (by omega)]; exact w4 j hj
  · show vx' 6 1 7 = m4 37 0 4
    rw [v67, em4, up3_s]
  · show 0 ≤ (vx' 6 1 7).toInt
    rw [v67]; omega
  · show (vx' 6 1 7).toInt ≤ 4
    rw [v67]; omega
  · intro g hg
    have hg : (g : Int) < (vx' 6 1 7).toInt := hg
    rw [v67] at hg
    show vx' 8 1 g = m4 37 0 (26 + 3 * g) ∧ 1 ≤ (vx' 8 1 g).toInt ∧ (vx' 8 1 g).toInt ≤ 5 ∧ vx' 9 1 g = m4 37 0 (26 + 3 * g + 1) ∧ 0 ≤ (vx' 9 1 g).toInt ∧ (vx' 9 1 g).toInt ≤ 9
    by_cases q : g = Int32.toNatClampNeg (vx 6 1 7)
    · subst q
      rw [v8s, v9s, em4, up3_j (by omega), em3, up3_j (by omega), em2, up3_j (by omega), em1, up3_s, up3_j (by omega), up3_j (by omega), up3_s]
      have e9 : (9 : Int32).toInt = 9 := by decide
      have n9' := i_le n9
      rw [e9] at n9'
      exact ⟨rfl, k1, k5, rfl, n0, n9'⟩
    · rw [v8 g q, v9 g q, mm (26 + 3 * g) (by omega) (by omega) (by omega) (by omega), mm (26 + 3 * g + 1) (by omega) (by omega) (by omega) (by omega)]
      exact g4 g (by omega)
  · show m4 37 0 6 = allg (vx' 6 1 7)
    rw [v67, em4, up3_j (by decide), em3, up3_s]
  · intro g hg
    show m4 37 0 (26 + 3 * g + 2) = 0
    rw [mm (26 + 3 * g + 2) (by omega) (by omega) (by omega) (by omega)]; exact g6 g hg
  · show vx' 10 1 5 = m4 37 0 0
    rw [v10, mm 0 (by omega) (by omega) (by omega) (by omega)]; exact z1
  · show vx' 6 1 4 = m4 37 0 1
    rw [v6 4 (by decide), mm 1 (by omega) (by omega) (by omega) (by omega)]; exact z2
  · show vx' 6 1 5 = m4 37 0 2
    rw [v6 5 (by decide), mm 2 (by omega) (by omega) (by omega) (by omega)]; exact z3
  · show m4 37 0 5 = 0
    rw [mm 5 (by omega) (by omega) (by omega) (by omega)]; exact z4
  · show m4 37 0 7 = 0
    rw [mm 7 (by omega) (by omega) (by omega) (by omega)]; exact z5
  · refine fmf.tr ((FPM.of f6 (by decide)).tr ?_)
    rw [em4, em3, em2, em1]
    exact (((FPM.up (Or.inl rfl)).tr (FPM.up (Or.inl rfl))).tr (FPM.up (Or.inl rfl))).tr (FPM.up (Or.inl rfl))
  · exact fxf.tr (FPX.of f5 (by decide))
