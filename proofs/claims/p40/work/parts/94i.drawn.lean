/-! drawn: the rest of the long is the rest of the int below it -/
theorem r64_eq (y : Int64) (w : Int64) (W : Int32) (hw : w.toInt = W.toInt) (h0 : 0 ≤ y.toInt) (h1 : y.toInt ≤ 2147483646) (h2 : 0 < W.toInt) (h3 : W.toInt ≤ 6) (hy : y.toInt32.toInt = y.toInt) : (y - y / w * w).toInt32 = y.toInt32 - y.toInt32 / W * W := by
  have b64 : ∀ x : Int, -9223372036854775808 ≤ x → x < 9223372036854775808 → x.bmod (2 ^ 64) = x := by
    intro x q1 q2
    unfold Int.bmod
    simp only []
    split <;> omega
  have s := sp_rem (a := y.toInt32) (b := W) (by omega) h2
  have d1 : 0 ≤ y.toInt / w.toInt := Int.ediv_nonneg h0 (by omega)
  have d2 : y.toInt / w.toInt ≤ y.toInt := Int.ediv_le_self _ h0
  have m1 : 0 ≤ y.toInt % w.toInt := Int.emod_nonneg _ (by omega)
  have m2 : y.toInt % w.toInt < w.toInt := Int.emod_lt_of_pos _ (by omega)
  have m3 : y.toInt / w.toInt * w.toInt + y.toInt % w.toInt = y.toInt := by rw [Int.mul_comm]; exact Int.mul_ediv_add_emod y.toInt w.toInt
  have e2 : (y / w).toInt = y.toInt / w.toInt := by
    rw [Int64.toInt_div, Int.tdiv_eq_ediv_of_nonneg h0]; exact b64 _ (by omega) (by omega)
  have e3 : (y / w * w).toInt = y.toInt / w.toInt * w.toInt := by
    rw [Int64.toInt_mul, e2]
    generalize y.toInt / w.toInt * w.toInt = z at *
    exact b64 _ (by omega) (by omega)
  have e4 : (y - y / w * w).toInt = y.toInt % w.toInt := by
    rw [Int64.toInt_sub, e3]
    generalize y.toInt / w.toInt * w.toInt = z at *
    rw [b64 _ (by omega) (by omega)]; omega
  have e5 : (y - y / w * w).toInt32.toInt = y.toInt % w.toInt := by
    rw [Int64.toInt_toInt32, e4]
    unfold Int.bmod
    simp only []
    split <;> omega
  refine Int32.toInt_inj.mp ?_
  rw [e5, s.1, hy, hw]
theorem l_drawn {vx vm : Mm} (hR : RG5 vx) (hG : GB vx vm) (hS : RSt vx 0 vm 36 0) (a1 a2 a3 : Int32) (ha : a1.toInt ≤ 60) (hw0 : 0 < (vx 6 0 6).toInt) (hw6 : (vx 6 0 6).toInt ≤ 6) : ∀ (n : Nat) (x4 : Int64) (x6 x7 x8 : Int32), 0 ≤ x4.toInt → x4.toInt ≤ 2147483646 → 0 ≤ x8.toInt → x8.toInt ≤ 60 → rel (g_X7_drawn_L57 vx a1 a2 a3 n x4 x6 x7 x8) (g_X8_drawn_L52 vm a1 a2 a3 n x4 x6 x7 x8) (fun x y => x = y) := by
  have e1 : (1 : Int32).toInt = 1 := by decide
  have e6 : (6 : Int32).toInt = 6 := by decide
  have e66 : (6 : Int64).toInt = 6 := by decide
  have ew : vx 6 0 6 = vm 36 0 3 := hS.2.2.1
  intro n
  induction n with
  | zero => intro x4 x6 x7 x8 _ _ _ _ a b e; cases e
  | succ n ih =>
    intro x4 x6 x7 x8 h0 h1 h8 h9
    show rel (b_X7_drawn_L57 (g_X7_drawn_L57 vx a1 a2 a3 n) vx a1 a2 a3 x4 x6 x7 x8) (b_X8_drawn_L52 (g_X8_drawn_L52 vm a1 a2 a3 n) vm a1 a2 a3 x4 x6 x7 x8) _
    unfold b_X7_drawn_L57 b_X8_drawn_L52
    refine rel_ite Iff.rfl (fun _ => rel_ite Iff.rfl (fun _ => rel_some rfl) (fun _ => rel_some rfl)) (fun c => ?_)
    have c' := i_nle c
    have ex8 := sp_addx x8 1 (by omega)
    obtain ⟨y1, y2, y3, y4⟩ := sp_d64 x4 h0 h1
    have y5 := y4.trans y3.symm
    clear y3 y4
    generalize (x4 * 16807) - (x4 * 16807) / 2147483647 * 2147483647 = y at *
    refine rel_grdR _ (fun _ => ?_)
    rw [tc_3, ← ew, q_rest vx _ _ hw0, Option.bind_some, Option.bind_some, r64_eq y (vx 6 0 6).toInt64 (vx 6 0 6) (Int32.toInt_toInt64 _) y1 y2 hw0 hw6 y5, r64_eq y 6 6 (by rw [e66, e6]) y1 y2 (by omega) (by omega) y5]
    have sw := sp_rem (a := y.toInt32) (b := vx 6 0 6) (by omega) hw0
    have sh := sp_rem (a := y.toInt32) (b := 6) (by omega) (by omega)
    generalize y.toInt32 - y.toInt32 / (vx 6 0 6) * (vx 6 0 6) = wd at *
    generalize y.toInt32 - y.toInt32 / 6 * 6 = hr at *
    refine rel_letR (fun x20 e20 => ?_)
    rw [e20]
    refine rel_bindL (x_taken hR hS (w := wd) (hour := hr) (d := x8) ⟨sw.2.1, sw.2.2.1⟩ ⟨sh.2.1, by have := sh.2.2.1; omega⟩ ⟨h8, h9⟩) (fun r er => rel_bindR (m_taken hR hG (w := wd) (hour := hr) (d := x8) ⟨sw.2.1, sw.2.2.1⟩ ⟨sh.2.1, by have := sh.2.2.1; omega⟩ ⟨h8, h9⟩) (fun r2 er2 => ?_))
    obtain rfl : r2 = r := er2.trans er.symm
    refine rel_ite Iff.rfl (fun c2 => ?_) (fun c2 => ?_)
    · rw [if_pos c2]
      simp only [Option.bind_some, Int32.add_zero]
      exact ih y _ _ _ y1 y2 (by omega) (by omega)
    · rw [if_neg c2, or0]
      exact ih y _ _ _ y1 y2 (by omega) (by omega)
theorem a_drawn {vx vm : Mm} (hJ : J2 vx vm) (a1 a2 a3 : Int32) : rel (g_X7_drawn vx a1 a2 a3) (g_X8_drawn vm a1 a2 a3) (fun x y => x = y) := by
  have hS := hJ.2.1.1
  have e0 : (0 : Int32).toInt = 0 := by decide
  have e1 : (1 : Int32).toInt = 1 := by decide
  have e60 : (60 : Int32).toInt = 60 := by decide
  have em : (999999 : Int32).toInt = 999999 := by decide
  have hw : (0 : Int) ≤ (vx 6 0 6).toInt ∧ (vx 6 0 6).toInt ≤ (6 : Int) := hJ.1.1 6 0 6
  have ew : vx 6 0 6 = vm 36 0 3 := hS.2.2.1
  have e7 : a2.toInt64.toInt = a2.toInt := Int32.toInt_toInt64 a2
  unfold g_X7_drawn g_X8_drawn
  rw [bx_nog, bm_isg vm (by rw [← ew]; exact hw.1), bm_far, b_in, b_in, rng2, rng2, rng3, ← ew, e0, e1, e60, em]
  refine rel_ite Iff.rfl (fun _ => rel_some rfl) (fun c0 => ?_)
  have c0' := i_ne c0
  refine rel_ite Iff.rfl (fun c1 => ?_) (fun _ => rel_some rfl)
  refine rel_ite Iff.rfl (fun c2 => ?_) (fun _ => rel_some rfl)
  refine rel_ite Iff.rfl (fun c3 => ?_) (fun _ => rel_some rfl)
  have hR := RG5.of hJ.1.1 hJ.1.2.1 hS (by omega)
  exact l_drawn hR hJ.2.1 hS a1 a2 a3 c1.2 (by omega) hw.2 2000 _ 0 0 0 (by omega) (by omega) (by omega) (by omega)
