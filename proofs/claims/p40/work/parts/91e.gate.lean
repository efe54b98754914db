/-! THE GATE, as the class holds it and as the reference does -/
def RSt (vx : Mm) (gi : Nat) (vm : Mm) (t o : Nat) : Prop := vx 6 gi 4 = vm t 0 (o + 1) ∧ vx 6 gi 5 = vm t 0 (o + 2) ∧ vx 6 gi 6 = vm t 0 (o + 3) ∧ vx 6 gi 7 = vm t 0 (o + 4) ∧ (∀ k : Nat, k < 18 → (k : Int) < 3 * (vx 6 gi 6).toInt → vx 7 gi k = vm t 0 (o + (8 + k))) ∧ (∀ g : Nat, g < 4 → (g : Int) < (vx 6 gi 7).toInt → vx 8 gi g = vm t 0 (o + (26 + 3 * g)) ∧ 1 ≤ (vx 8 gi g).toInt ∧ (vx 8 gi g).toInt ≤ 5 ∧ vx 9 gi g = vm t 0 (o + (26 + 3 * g + 1)) ∧ 0 ≤ (vx 9 gi g).toInt ∧ (vx 9 gi g).toInt ≤ 9)
def TG (G a b : Int32) : Prop := (b = 0 ∧ a = -1000000) ∨ (1 ≤ b.toInt ∧ b.toInt ≤ G.toInt ∧ a = b - 1)
def RMo (vx : Mm) (mi : Nat) (vm : Mm) (t o : Nat) : Prop := vx 10 mi 5 = vm t 0 (o + 0) ∧ vx 10 mi 4 = vm t 0 (o + 5) ∧ vx 10 mi 6 = vm t 0 (o + 6) ∧ vx 10 mi 7 = vm t 0 (o + 7) ∧ (∀ g : Nat, g < 4 → vx 11 mi g = if (g : Int) < (vm t 0 (o + 4)).toInt then vm t 0 (o + (26 + 3 * g + 2)) else 0) ∧ (∀ k : Nat, k < 9 → (k : Int) < (vm t 0 (o + 7)).toInt → vx 12 mi k = vm t 0 (o + (38 + 3 * k)) ∧ TG (vm t 0 (o + 4)) (vx 13 mi k) (vm t 0 (o + (38 + 3 * k + 1))) ∧ vx 14 mi k = vm t 0 (o + (38 + 3 * k + 2)) ∧ (vx 14 mi k = 0 ∨ vx 14 mi k = 1) ∧ (vm t 0 (o + (38 + 3 * k + 1)) = 0 → vx 14 mi k = 0) ∧ 0 ≤ (vx 12 mi k).toInt ∧ (vx 12 mi k).toInt < (vm t 0 (o + 3)).toInt) ∧ 0 ≤ (vm t 0 (o + 6)).toInt ∧ (vm t 0 (o + 6)).toInt ≤ (allg (vm t 0 (o + 4))).toInt
def stc (j : Nat) : Prop := (0 < j ∧ j < 5) ∨ (8 ≤ j ∧ j < 26) ∨ (26 ≤ j ∧ j < 38 ∧ (j - 26) % 3 ≠ 2)
theorem RSt.mv {vx wx vm wm : Mm} {gi g2 t t2 o o2 : Nat} (h : RSt vx gi vm t o) (h6 : ∀ j, 4 ≤ j → j < 8 → wx 6 g2 j = vx 6 gi j) (h7 : ∀ j, j < 18 → wx 7 g2 j = vx 7 gi j) (h8 : ∀ j, j < 4 → wx 8 g2 j = vx 8 gi j) (h9 : ∀ j, j < 4 → wx 9 g2 j = vx 9 gi j) (hm : ∀ j, stc j → wm t2 0 (o2 + j) = vm t 0 (o + j)) : RSt wx g2 wm t2 o2 := by
  obtain ⟨a1, a2, a3, a4, a5, a6⟩ := h
  refine ⟨?_, ?_, ?_, ?_, fun k hk hw => ?_, fun g hg hw => ?_⟩
  · rw [h6 4 (by omega) (by omega), hm 1 (by unfold stc; omega)]; exact a1
  · rw [h6 5 (by omega) (by omega), hm 2 (by unfold stc; omega)]; exact a2
  · rw [h6 6 (by omega) (by omega), hm 3 (by unfold stc; omega)]; exact a3
  · rw [h6 7 (by omega) (by omega), hm 4 (by unfold stc; omega)]; exact a4
  · rw [h6 6 (by omega) (by omega)] at hw
    rw [h7 k hk, hm (8 + k) (by unfold stc; omega)]; exact a5 k hk hw
  · rw [h6 7 (by omega) (by omega)] at hw
    rw [h8 g hg, h9 g hg, hm (26 + 3 * g) (by unfold stc; omega), hm (26 + 3 * g + 1) (by unfold stc; omega)]; exact a6 g hg hw
theorem RMo.mv {vx wx vm wm : Mm} {gi g2 t t2 o o2 : Nat} (h : RMo vx gi vm t o) (h10 : ∀ j, 4 ≤ j → j < 8 → wx 10 g2 j = vx 10 gi j) (h11 : ∀ j, j < 4 → wx 11 g2 j = vx 11 gi j) (h12 : ∀ j, j < 9 → wx 12 g2 j = vx 12 gi j) (h13 : ∀ j, j < 9 → wx 13 g2 j = vx 13 gi j) (h14 : ∀ j, j < 9 → wx 14 g2 j = vx 14 gi j) (hm : ∀ j, j < 65 → wm t2 0 (o2 + j) = vm t 0 (o + j)) : RMo wx g2 wm t2 o2 := by
  obtain ⟨a1, a2, a3, a4, a5, a6, a7, a8⟩ := h
  refine ⟨?_, ?_, ?_, ?_, fun g hg => ?_, fun k hk hw => ?_, ?_, ?_⟩
  · rw [h10 5 (by omega) (by omega), hm 0 (by omega)]; exact a1
  · rw [h10 4 (by omega) (by omega), hm 5 (by omega)]; exact a2
  · rw [h10 6 (by omega) (by omega), hm 6 (by omega)]; exact a3
  · rw [h10 7 (by omega) (by omega), hm 7 (by omega)]; exact a4
  · rw [h11 g hg, hm 4 (by omega), hm (26 + 3 * g + 2) (by omega)]; exact a5 g hg
  · rw [hm 7 (by omega)] at hw
    rw [h12 k hk, h13 k hk, h14 k hk, hm 3 (by omega), hm 4 (by omega), hm (38 + 3 * k) (by omega), hm (38 + 3 * k + 1) (by omega), hm (38 + 3 * k + 2) (by omega)]; exact a6 k hk hw
  · rw [hm 6 (by omega)]; exact a7
  · rw [hm 6 (by omega), hm 4 (by omega)]; exact a8
/-! the class's copies of moments and gates -/
theorem cpy3_s {v : Mm} {t i1 i n j : Nat} (h : j < n) : cpy3 v t i1 0 t i 0 n t i j = v t i1 j := by
  unfold cpy3 row3
  rw [if_pos ⟨rfl, rfl⟩]
  unfold va_cpy
  rw [if_pos (by omega)]
  congr 1
  omega
theorem cpy3_i {v : Mm} {t1 i1 sp t i dp n t2 i2 j2 : Nat} (h : i2 ≠ i) : cpy3 v t1 i1 sp t i dp n t2 i2 j2 = v t2 i2 j2 := by
  unfold cpy3 row3; rw [if_neg (fun q => h q.2)]
theorem tc_18 : Int32.toNatClampNeg 18 = 18 := by decide
theorem tc_9 : Int32.toNatClampNeg 9 = 9 := by decide
theorem p_mom (v : Mm) (i0 i1 : Nat) : pk (g_X4_become v i0 i1) (fun z => (∀ j, 4 ≤ j → j < 8 → z 10 i0 j = v 10 i1 j) ∧ (∀ j, j < 4 → z 11 i0 j = v 11 i1 j) ∧ (∀ j, j < 9 → z 12 i0 j = v 12 i1 j) ∧ (∀ j, j < 9 → z 13 i0 j = v 13 i1 j) ∧ (∀ j, j < 9 → z 14 i0 j = v 14 i1 j) ∧ ∀ t i j, ¬ (i = i0 ∧ 10 ≤ t ∧ t ≤ 14) → z t i j = v t i j) := by
  unfold g_X4_become
  rw [tc_0, tc_4, tc_9]
  refine pk_let (fun v1 e1 => pk_let (fun v2 e2 => pk_let (fun v3 e3 => pk_let (fun v4 e4 => pk_let (fun v5 e5 => pk_let (fun v6 e6 => pk_let (fun v7 e7 => pk_let (fun v8 e8 => ?_))))))))
  have a1 : v1 10 i1 5 = v 10 i1 5 := by rw [e1]; exact up3_j (by decide)
  have a2 : v2 10 i1 6 = v 10 i1 6 := by rw [e2, up3_j (by decide), e1]; exact up3_j (by decide)
  have a3 : v3 10 i1 7 = v 10 i1 7 := by rw [e3, up3_j (by decide), e2, up3_j (by decide), e1]; exact up3_j (by decide)
  rw [a1] at e2
  rw [a2] at e3
  rw [a3] at e4
  have b4 : ∀ t i j, t ≠ 10 → v4 t i j = v t i j := fun t i j h => by rw [e4, up3_t h, e3, up3_t h, e2, up3_t h, e1, up3_t h]
  refine pk_some ⟨fun j h1 h2 => ?_, fun j h => ?_, fun j h => ?_, fun j h => ?_, fun j h => ?_, fun t i j h => ?_⟩
  · have b8 : v8 10 i0 j = v4 10 i0 j := by rw [e8, cpy3_t (by decide), e7, cpy3_t (by decide), e6, cpy3_t (by decide), e5, cpy3_t (by decide)]
    rw [b8, e4]
    rcases (show j = 4 ∨ j = 5 ∨ j = 6 ∨ j = 7 by omega) with rfl | rfl | rfl | rfl
    · rw [up3_j (by decide), e3, up3_j (by decide), e2, up3_j (by decide), e1, up3_s]
    · rw [up3_j (by decide), e3, up3_j (by decide), e2, up3_s]
    · rw [up3_j (by decide), e3, up3_s]
    · rw [up3_s]
  · rw [e8, cpy3_t (by decide), e7, cpy3_t (by decide), e6, cpy3_t (by decide), e5, cpy3_s h]; exact b4 _ _ _ (by decide)
  · rw [e8, cpy3_t (by decide), e7, cpy3_t (by decide), e6, cpy3_s h, e5, cpy3_t (by decide)]; exact b4 _ _ _ (by decide)
  · rw [e8, cpy3_t (by decide), e7, cpy3_s h, e6, cpy3_t (by decide), e5, cpy3_t (by decide)]; exact b4 _ _ _ (by decide)
  · rw [e8, cpy3_s h, e7, cpy3_t (by decide), e6, cpy3_t (by decide), e5, cpy3_t (by decide)]; exact b4 _ _ _ (by decide)
  · by_cases hi : i = i0
    · have n10 : t ≠ 10 := by omega
      have n11 : t ≠ 11 := by omega
      have n12 : t ≠ 12 := by omega
      have n13 : t ≠ 13 := by omega
      have n14 : t ≠ 14 := by omega
      rw [e8, cpy3_t n14, e7, cpy3_t n13, e6, cpy3_t n12, e5, cpy3_t n11]; exact b4 _ _ _ n10
    · rw [e8, cpy3_i hi, e7, cpy3_i hi, e6, cpy3_i hi, e5, cpy3_i hi, e4, up3_i hi, e3, up3_i hi, e2, up3_i hi, e1, up3_i hi]
theorem p_gt (v : Mm) (i0 i1 : Nat) : pk (g_X2_become v i0 i1) (fun z => ((∀ j, 4 ≤ j → j < 8 → z 6 i0 j = v 6 i1 j) ∧ (∀ j, j < 18 → z 7 i0 j = v 7 i1 j) ∧ (∀ j, j < 4 → z 8 i0 j = v 8 i1 j) ∧ (∀ j, j < 4 → z 9 i0 j = v 9 i1 j)) ∧ ((∀ j, 4 ≤ j → j < 8 → z 10 i0 j = v 10 i1 j) ∧ (∀ j, j < 4 → z 11 i0 j = v 11 i1 j) ∧ (∀ j, j < 9 → z 12 i0 j = v 12 i1 j) ∧ (∀ j, j < 9 → z 13 i0 j = v 13 i1 j) ∧ (∀ j, j < 9 → z 14 i0 j = v 14 i1 j)) ∧ ∀ t i j, ¬ (i = i0 ∧ 6 ≤ t ∧ t ≤ 14) → z t i j = v t i j) := by
  unfold g_X2_become
  rw [tc_0, tc_4, tc_18]
  refine pk_let (fun v1 e1 => pk_let (fun v2 e2 => pk_let (fun v3 e3 => pk_bind (p_mom v3 i0 i1) (fun v6 h6 => pk_let (fun v7 e7 => pk_let (fun v8 e8 => pk_let (fun v9 e9 => pk_let (fun v10 e10 => ?_))))))))
  obtain ⟨m1, m2, m3, m4, m5, m6⟩ := h6
  have b3 : ∀ t i j, t ≠ 7 → t ≠ 8 → t ≠ 9 → v3 t i j = v t i j := fun t i j h1 h2 h3 => by rw [e3, cpy3_t h3, e2, cpy3_t h2, e1, cpy3_t h1]
  have b6 : ∀ j, v6 6 i1 j = v 6 i1 j := fun j => by rw [m6 6 i1 j (by omega)]; exact b3 _ _ _ (by decide) (by decide) (by decide)
  have a5 : v7 6 i1 5 = v 6 i1 5 := by rw [e7, up3_j (by decide)]; exact b6 5
  have a6 : v8 6 i1 6 = v 6 i1 6 := by rw [e8, up3_j (by decide), e7, up3_j (by decide)]; exact b6 6
  have a7 : v9 6 i1 7 = v 6 i1 7 := by rw [e9, up3_j (by decide), e8, up3_j (by decide), e7, up3_j (by decide)]; exact b6 7
  rw [b6] at e7
  rw [a5] at e8
  rw [a6] at e9
  rw [a7] at e10
  have b10 : ∀ t i j, t ≠ 6 → v10 t i j = v6 t i j := fun t i j h => by rw [e10, up3_t h, e9, up3_t h, e8, up3_t h, e7, up3_t h]
  refine pk_some ⟨⟨fun j h1 h2 => ?_, fun j h => ?_, fun j h => ?_, fun j h => ?_⟩, ⟨fun j h1 h2 => ?_, fun j h => ?_, fun j h => ?_, fun j h => ?_, fun j h => ?_⟩, fun t i j h => ?_⟩
  · rw [e10]
    rcases (show j = 4 ∨ j = 5 ∨ j = 6 ∨ j = 7 by omega) with rfl | rfl | rfl | rfl
    · rw [up3_j (by decide), e9, up3_j (by decide), e8, up3_j (by decide), e7, up3_s]
    · rw [up3_j (by decide), e9, up3_j (by decide), e8, up3_s]
    · rw [up3_j (by decide), e9, up3_s]
    · rw [up3_s]
  · rw [b10 _ _ _ (by decide), m6 7 i0 j (by omega), e3, cpy3_t (by decide), e2, cpy3_t (by decide), e1, cpy3_s h]
  · rw [b10 _ _ _ (by decide), m6 8 i0 j (by omega), e3, cpy3_t (by decide), e2, cpy3_s h, e1, cpy3_t (by decide)]
  · rw [b10 _ _ _ (by decide), m6 9 i0 j (by omega), e3, cpy3_s h, e2, cpy3_t (by decide), e1, cpy3_t (by decide)]
  · rw [b10 _ _ _ (by decide), m1 j h1 h2]; exact b3 _ _ _ (by decide) (by decide) (by decide)
  · rw [b10 _ _ _ (by decide), m2 j h]; exact b3 _ _ _ (by decide) (by decide) (by decide)
  · rw [b10 _ _ _ (by decide), m3 j h]; exact b3 _ _ _ (by decide) (by decide) (by decide)
  · rw [b10 _ _ _ (by decide), m4 j h]; exact b3 _ _ _ (by decide) (by decide) (by decide)
  · rw [b10 _ _ _ (by decide), m5 j h]; exact b3 _ _ _ (by decide) (by decide) (by decide)
  · by_cases hi : i = i0
    · have n6 : t ≠ 6 := by omega
      rw [b10 _ _ _ n6, m6 t i j (by omega)]
      exact b3 _ _ _ (by omega) (by omega) (by omega)
    · rw [e10, up3_i hi, e9, up3_i hi, e8, up3_i hi, e7, up3_i hi, m6 t i j (fun q => hi q.1), e3, cpy3_i hi, e2, cpy3_i hi, e1, cpy3_i hi]
theorem p_begin (v : Mm) (i0 : Nat) (a1 : Int32) : pk (g_X4_begin v i0 a1) (fun z => z 10 i0 4 = 0 ∧ z 10 i0 6 = allg a1 ∧ z 10 i0 7 = 0 ∧ z 10 i0 5 = v 10 i0 5 ∧ (∀ j, j < 4 → z 11 i0 j = 0) ∧ ∀ t i j, ¬ (i = i0 ∧ (t = 10 ∨ t = 11)) → z t i j = v t i j) := by
  have e1 : (1 : Int32).toInt = 1 := by decide
  have e4 : (4 : Int32).toInt = 4 := by decide
  have loop : ∀ (n : Nat) (w : Mm) (x : Int32) (k : Nat), x.toInt = (k : Int) → k ≤ 4 → ((w 10 i0 4 = 0 ∧ w 10 i0 6 = allg a1 ∧ w 10 i0 7 = 0 ∧ w 10 i0 5 = v 10 i0 5) ∧ (∀ j, j < k → w 11 i0 j = 0) ∧ ∀ t i j, ¬ (i = i0 ∧ (t = 10 ∨ t = 11)) → w t i j = v t i j) → pk (g_X4_begin_L21 i0 a1 n w x) (fun z => z 10 i0 4 = 0 ∧ z 10 i0 6 = allg a1 ∧ z 10 i0 7 = 0 ∧ z 10 i0 5 = v 10 i0 5 ∧ (∀ j, j < 4 → z 11 i0 j = 0) ∧ ∀ t i j, ¬ (i = i0 ∧ (t = 10 ∨ t = 11)) → z t i j = v t i j) := by
    intro n
    induction n with
    | zero => intro w x k _ _ _ b e; cases e
    | succ n ih =>
      intro w x k hx hk hw
      show pk (b_X4_begin_L21 (g_X4_begin_L21 i0 a1 n) i0 a1 w x) _
      unfold b_X4_begin_L21
      refine pk_ite _ (fun c => ?_) (fun c => ?_)
      · have := i_le c
        obtain rfl : k = 4 := by omega
        exact pk_some ⟨hw.1.1, hw.1.2.1, hw.1.2.2.1, hw.1.2.2.2, hw.2.1, hw.2.2⟩
      · have := i_nle c
        refine pk_grd _ (fun _ => pk_let (fun w1 ew1 => ?_))
        have hc : Int32.toNatClampNeg x = k := by rw [tcn]; omega
        rw [hc] at ew1
        have e2 := sp_addx x 1 (by omega)
        have w10 : ∀ j, w1 10 i0 j = w 10 i0 j := fun j => by rw [ew1]; exact up3_t (by decide)
        refine ih w1 (x + 1) (k + 1) (by omega) (by omega) ⟨⟨?_, ?_, ?_, ?_⟩, fun j hj => ?_, fun t i j hn => ?_⟩
        · rw [w10]; exact hw.1.1
        · rw [w10]; exact hw.1.2.1
        · rw [w10]; exact hw.1.2.2.1
        · rw [w10]; exact hw.1.2.2.2
        · by_cases q : j = k
          · rw [ew1, q]; exact up3_s
          · rw [ew1, up3_j q]; exact hw.2.1 j (by omega)
        · rw [ew1]; unfold up3
          rw [if_neg (fun q => hn ⟨q.2.1, Or.inr q.1⟩)]
          exact hw.2.2 t i j hn
  unfold g_X4_begin
  refine pk_let (fun v1 ev1 => pk_let (fun v2 ev2 => pk_let (fun v3 ev3 => ?_)))
  refine loop 2000 v3 0 0 (by decide) (by omega) ⟨⟨?_, ?_, ?_, ?_⟩, fun j hj => absurd hj (Nat.not_lt_zero j), fun t i j hn => ?_⟩
  · rw [ev3, up3_j (by decide), ev2, up3_j (by decide), ev1]; exact up3_s
  · rw [ev3, up3_j (by decide), ev2, up3_s]; rfl
  · rw [ev3]; exact up3_s
  · rw [ev3, up3_j (by decide), ev2, up3_j (by decide), ev1]; exact up3_j (by decide)
  · rw [ev3, ev2, ev1]; unfold up3
    rw [if_neg (fun q => hn ⟨q.2.1, Or.inl q.1⟩), if_neg (fun q => hn ⟨q.2.1, Or.inl q.1⟩), if_neg (fun q => hn ⟨q.2.1, Or.inl q.1⟩)]
/-! the reference's copies of 65 cells -/
theorem p_cp3736 (v : Mm) : pk (g_X8_copies_37_36 v 0 0) (fun z => (∀ j, j < 65 → z 36 0 j = v 37 0 j) ∧ ∀ t i j, t ≠ 36 → z t i j = v t i j) := by
  have e65 : (65 : Int32).toInt = 65 := by decide
  have e1 : (1 : Int32).toInt = 1 := by decide
  have loop : ∀ (n : Nat) (w : Mm) (x : Int32) (k : Nat), x.toInt = (k : Int) → k ≤ 65 → ((∀ j, j < k → w 36 0 j = v 37 0 j) ∧ ∀ t i j, t ≠ 36 → w t i j = v t i j) → pk (g_X8_copies_37_36_L3 0 0 n w x) (fun z => (∀ j, j < 65 → z 36 0 j = v 37 0 j) ∧ ∀ t i j, t ≠ 36 → z t i j = v t i j) := by
    intro n
    induction n with
    | zero => intro w x k _ _ _ b e; cases e
    | succ n ih =>
      intro w x k hx hk hw
      show pk (b_X8_copies_37_36_L3 (g_X8_copies_37_36_L3 0 0 n) 0 0 w x) _
      unfold b_X8_copies_37_36_L3
      refine pk_ite _ (fun c => ?_) (fun c => ?_)
      · have := i_le c
        obtain rfl : k = 65 := by omega
        exact pk_some hw
      · have := i_nle c
        refine pk_grd _ (fun _ => pk_grd _ (fun _ => pk_let (fun w1 ew1 => ?_)))
        have hc : Int32.toNatClampNeg (0 + x) = k := by rw [Int32.zero_add, tcn]; omega
        rw [hc] at ew1
        have e2 := sp_addx x 1 (by omega)
        refine ih w1 (x + 1) (k + 1) (by omega) (by omega) ⟨fun j hj => ?_, fun t i j hn => ?_⟩
        · by_cases q : j = k
          · rw [ew1, q, up3_s]; exact hw.2 _ _ _ (by decide)
          · rw [ew1, up3_j q]; exact hw.1 j (by omega)
        · rw [ew1, up3_t hn]; exact hw.2 t i j hn
  exact loop 2000 v 0 0 (by decide) (by omega) ⟨fun j hj => absurd hj (Nat.not_lt_zero j), fun _ _ _ _ => rfl⟩
