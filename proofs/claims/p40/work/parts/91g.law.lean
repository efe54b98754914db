/-! the law's row of a text, then the whole -/
def Z3 (vm : Mm) : Prop := ∀ j, 3 ≤ j → j < 65 → vm 37 0 j = 0
theorem DR_0 {vx vm : Mm} (h6 : vx 6 1 6 = 0) (h7 : vx 6 1 7 = 0) (hz : Z3 vm) (h0 : vx 10 1 5 = vm 37 0 0) (h1 : vx 6 1 4 = vm 37 0 1) (h2 : vx 6 1 5 = vm 37 0 2) : DR vx vm := by
  have e0 : (0 : Int32).toInt = 0 := by decide
  refine ⟨⟨?_, ?_, ?_, fun k hk => ?_⟩, ⟨?_, ?_, ?_, fun g hg => ?_, ?_, fun g hg => ?_⟩, h0, h1, h2, hz 5 (by omega) (by omega), hz 7 (by omega) (by omega)⟩
  · rw [h6, hz 3 (by omega) (by omega)]
  · rw [h6, e0]; omega
  · rw [h6, e0]; omega
  · rw [h6, e0] at hk; omega
  · rw [h7, hz 4 (by omega) (by omega)]
  · rw [h7, e0]; omega
  · rw [h7, e0]; omega
  · rw [h7, e0] at hg; omega
  · rw [h7, hz 6 (by omega) (by omega)]; decide
  · exact hz _ (by omega) (by omega)
set_option maxHeartbeats 4000000 in
theorem st_law {ux um vx vm : Mm} {xx : Int32} {F : Int32 → Mm → Option (Int32 × Mm)} (hF0 : ∀ v, F 0 v = some (0, v)) (hI : INV vx vm) (h6 : vx 6 1 6 = 0) (h7 : vx 6 1 7 = 0) (hz : Z3 vm) (fx : FPX ux vx) (fm : FPM um vm) (hok : ∀ vx' vm', INV vx' vm' → DR vx' vm' → vx' 6 1 6 = 0 → vx' 6 1 7 = 0 → FPX ux vx' → FPM um vm' → rel (F 1 vx') (gK2 vm' xx) (GQ ux um)) : rel (kb2 (g_X6_readLaw vx) F) (if vm 30 0 11 = 1 ∧ vm 30 0 12 = 113 then (kb2 (g_X8_takes vm 1 1) (fun _ w => gK1 w xx)) else (kb2 (g_X8_takes vm 0 1) (fun _ w => gK1 w xx))) (GQ ux um) := by
  have hQ : ∀ a b, GBD ux um a b → GQ ux um a b := fun a b h => Or.inl h
  unfold g_X6_readLaw
  rw [kb2_assoc]
  refine st_sign hI (by unfold fig; decide) (by decide) (hI.chr (s := 113) (by decide)) (fun a m ia fa ga => ?_) (fun a m ia fa ga => ?_)
  rotate_left
  · rw [if_pos rfl, kb2_sm, hF0]
    exact s_gK1 ia (fx.tr (FPX.of fa (by decide))) (fm.flt ga) hQ
  have fx1 := fx.tr (FPX.of fa (by decide))
  have fm1 := fm.tr (FPM.of ga (by decide))
  rw [if_neg (by decide), kb2_assoc]
  unfold gK1
  refine st_num ia (fun b p ib fb gb n0 n9 => ?_) (fun b p ib fb gb => ?_)
  rotate_left
  · rw [if_pos rfl, kb2_sm, hF0]
    rw [Option.bind_some]
    refine s_gK1b (ib.fr (FR.refl [] _) ((FR.refl [37] _).upa (by decide) (by decide)) (by decide) (by decide)) (fx1.tr (FPX.of fb (by decide))) (fun t i j k1 k2 k3 k4 => (up3_t k3).trans (fm1.flt gb t i j k1 k2 k3 k4)) hQ
  have fx2 := fx1.tr (FPX.of fb (by decide))
  have fm2 := fm1.tr (FPM.of gb (by decide))
  rw [if_neg (by decide), kb2_bind]
  refine rel_letL (fun c ec => rel_letR (fun q eq => ?_))
  rw [tc_0] at eq
  have ic : INV c q := ib.fr (S := [10]) (T := [37]) (by rw [ec]; exact (FR.refl _ _).upa (by decide) (by decide)) (by rw [eq]; exact (FR.refl _ _).upa (by decide) (by decide)) (by decide) (by decide)
  have fx3 : FPX ux c := fx2.tr (by rw [ec]; exact FPX.up (Or.inr (by decide)))
  have fm3 : FPM um q := fm2.tr (by rw [eq]; exact FPM.up (Or.inl rfl))
  have c6 : ∀ j, c 6 1 j = vx 6 1 j := fun j => by rw [ec, up3_t (by decide), fb 6 1 j rfl, fa 6 1 j rfl]
  have q37 : ∀ j, j ≠ 0 → q 37 0 j = vm 37 0 j := fun j hj => by rw [eq, up3_j hj, gb 37 0 j rfl, ga 37 0 j rfl]
  have c10 : c 10 1 5 = q 37 0 0 := by rw [ec, up3_s, eq, up3_s]
  -- the step
  unfold gK1b
  rw [q_follows, kb2_assoc]
  refine st_sign ic (by unfold fig; decide) (by decide) ic.comma (fun a m ia fa ga => ?_) (fun a m ia fa ga => ?_)
  rotate_left
  · rw [if_pos rfl, kb2_sm, hF0, s_figure ia.2.2.2, kb2_sm, Option.bind_some]
    refine s_gK1c (ia.fr (FR.refl [] _) ((FR.refl [37] _).upa (by decide) (by decide)) (by decide) (by decide)) (fx3.tr (FPX.of fa (by decide))) (fun t i j k1 k2 k3 k4 => (up3_t k3).trans (fm3.flt ga t i j k1 k2 k3 k4)) hQ
  have fx4 := fx3.tr (FPX.of fa (by decide))
  have fm4 := fm3.tr (FPM.of ga (by decide))
  rw [if_neg (by decide), kb2_assoc]
  refine st_num ia (fun b p ib fb gb n0 n9 => ?_) (fun b p ib fb gb => ?_)
  rotate_left
  · rw [if_pos rfl, kb2_sm, hF0]
    rw [Option.bind_some]
    refine s_gK1c (ib.fr (FR.refl [] _) ((FR.refl [37] _).upa (by decide) (by decide)) (by decide) (by decide)) (fx4.tr (FPX.of fb (by decide))) (fun t i j k1 k2 k3 k4 => (up3_t k3).trans (fm4.flt gb t i j k1 k2 k3 k4)) hQ
  have fx5 := fx4.tr (FPX.of fb (by decide))
  have fm5 := fm4.tr (FPM.of gb (by decide))
  rw [if_neg (by decide), kb2_bind]
  refine rel_letL (fun d ed => rel_letR (fun r er => ?_))
  rw [tc_1] at er
  have id_ : INV d r := ib.fr (S := [6]) (T := [37]) (by rw [ed]; exact (FR.refl _ _).upa (by decide) (by decide)) (by rw [er]; exact (FR.refl _ _).upa (by decide) (by decide)) (by decide) (by decide)
  have fx6 : FPX ux d := fx5.tr (by rw [ed]; exact FPX.up (Or.inr (by decide)))
  have fm6 : FPM um r := fm5.tr (by rw [er]; exact FPM.up (Or.inl rfl))
  have d6 : ∀ j, j ≠ 4 → d 6 1 j = vx 6 1 j := fun j hj => by rw [ed, up3_j hj, fb 6 1 j rfl, fa 6 1 j rfl]; exact c6 j
  have r37 : ∀ j, j ≠ 1 → r 37 0 j = q 37 0 j := fun j hj => by rw [er, up3_j hj, gb 37 0 j rfl, ga 37 0 j rfl]
  have d10 : d 10 1 5 = r 37 0 0 := by rw [ed, up3_t (by decide), fb 10 1 5 rfl, fa 10 1 5 rfl, r37 0 (by decide)]; exact c10
  have d4 : d 6 1 4 = r 37 0 1 := by rw [ed, up3_s, er, up3_s]
  -- shrovetide
  unfold gK1c
  rw [q_follows, kb2_assoc]
  refine st_sign id_ (by unfold fig; decide) (by decide) id_.comma (fun a m ia fa ga => ?_) (fun a m ia fa ga => ?_)
  rotate_left
  · rw [if_pos rfl, kb2_sm, hF0, s_figure ia.2.2.2, kb2_sm, Option.bind_some]
    have k : FLT a (up3 m 37 0 (Int32.toNatClampNeg 2) 0) := ia.fr (FR.refl [] _) ((FR.refl [37] _).upa (by decide) (by decide)) (by decide) (by decide)
    rw [s_gK1d k.2.2.2]
    exact gbd k (fx6.tr (FPX.of fa (by decide))) (fun t i j k1 k2 k3 k4 => (up3_t k3).trans (fm6.flt ga t i j k1 k2 k3 k4)) hQ
  have fx7 := fx6.tr (FPX.of fa (by decide))
  have fm7 := fm6.tr (FPM.of ga (by decide))
  rw [if_neg (by decide), kb2_assoc]
  refine st_num ia (fun b p ib fb gb n0 n9 => ?_) (fun b p ib fb gb => ?_)
  rotate_left
  · rw [if_pos rfl, kb2_sm, hF0]
    rw [Option.bind_some]
    have k : FLT b (up3 p 37 0 (Int32.toNatClampNeg 2) 0) := ib.fr (FR.refl [] _) ((FR.refl [37] _).upa (by decide) (by decide)) (by decide) (by decide)
    rw [s_gK1d k.2.2.2]
    exact gbd k (fx7.tr (FPX.of fb (by decide))) (fun t i j k1 k2 k3 k4 => (up3_t k3).trans (fm7.flt gb t i j k1 k2 k3 k4)) hQ
  have fx8 := fx7.tr (FPX.of fb (by decide))
  have fm8 := fm7.tr (FPM.of gb (by decide))
  rw [if_neg (by decide), kb2_bind]
  refine rel_letL (fun f ef => rel_letR (fun s es => ?_))
  rw [tc_2] at es
  have if_ : INV f s := ib.fr (S := [6]) (T := [37]) (by rw [ef]; exact (FR.refl _ _).upa (by decide) (by decide)) (by rw [es]; exact (FR.refl _ _).upa (by decide) (by decide)) (by decide) (by decide)
  have fx9 : FPX ux f := fx8.tr (by rw [ef]; exact FPX.up (Or.inr (by decide)))
  have fm9 : FPM um s := fm8.tr (by rw [es]; exact FPM.up (Or.inl rfl))
  have f6 : ∀ j, j ≠ 5 → f 6 1 j = d 6 1 j := fun j hj => by rw [ef, up3_j hj, fb 6 1 j rfl, fa 6 1 j rfl]
  have s37 : ∀ j, j ≠ 2 → s 37 0 j = r 37 0 j := fun j hj => by rw [es, up3_j hj, gb 37 0 j rfl, ga 37 0 j rfl]
  have f10 : f 10 1 5 = s 37 0 0 := by rw [ef, up3_t (by decide), fb 10 1 5 rfl, fa 10 1 5 rfl, s37 0 (by decide)]; exact d10
  have f4 : f 6 1 4 = s 37 0 1 := by rw [f6 4 (by decide), s37 1 (by decide)]; exact d4
  have f5 : f 6 1 5 = s 37 0 2 := by rw [ef, up3_s, es, up3_s]
  have f66 : f 6 1 6 = 0 := by rw [f6 6 (by decide), d6 6 (by decide)]; exact h6
  have f67 : f 6 1 7 = 0 := by rw [f6 7 (by decide), d6 7 (by decide)]; exact h7
  have sz : Z3 s := fun j h1 h2 => by rw [s37 j (by omega), r37 j (by omega), q37 j (by omega)]; exact hz j h1 h2
  have hD : DR f s := DR_0 f66 f67 sz f10 f4 f5
  -- its end
  unfold gK1d
  rw [kb2_assoc]
  refine st_sign if_ (by unfold fig; decide) (by decide) if_.stop (fun a m ia fa ga => ?_) (fun a m ia fa ga => ?_)
  · rw [kb2_sm]
    exact hok a m ia (hD.fr fa ga (by decide) (by decide)) (by rw [fa 6 1 6 rfl]; exact f66) (by rw [fa 6 1 7 rfl]; exact f67) (fx9.tr (FPX.of fa (by decide))) (fm9.tr (FPM.of ga (by decide)))
  · rw [kb2_sm, hF0, s_gK2 ia.2.2.2]
    exact gbd ia (fx9.tr (FPX.of fa (by decide))) (fm9.flt ga) hQ
/-- the first word -/
theorem st_first {ux um vx vm : Mm} {xx : Int32} (hI : INV vx vm) (hD : DR vx vm) (h6 : vx 6 1 6 = 0) (h7 : vx 6 1 7 = 0) (fx : FPX ux vx) (fm : FPM um vm) : rel (kb2 (g_X6_readWord vx) (fun r9 v10 => if r9 = 0 then (some (0, v10)) else (g_X6_read_L39 2000 v10 0))) (gK2 vm xx) (GQ ux um) := by
  have e0 : (0 : Int32).toInt = 0 := by decide
  have hc := hI.chr (s := 119) (by decide)
  unfold gK2
  rw [ite_and2]
  by_cases c : hereF vx = 119
  · rw [if_pos (hc.mpr c), q_must_t hI.2.2.2.2.2.1, Option.bind_some, q_L147 1999, q_well hI.2.2.2.2.2.1, bind1, ite_and2, if_pos (hc.mpr c)]
    refine rel_st (st_word hI hD c fx fm) (fun vx' vm' i1 i2 i3 i4 i5 i6 => ?_) (fun vx' vm' i1 i2 i3 => ?_)
    · rw [if_neg (by decide)]
      exact wl_loop 2000 1999 vx' vm' 0 i1 i2 i5 i6 (by rw [i4, h7]; decide) (by decide) (by rw [i3, h6]; decide)
    · rw [if_pos rfl, s_L147 (n := 1998) i1.2.2.2]
      exact gbd i1 i2 i3 (fun a b h => Or.inl h)
  · rw [if_neg (fun q => c (hc.mp q))]
    obtain ⟨vm', k1, k2, k3, k4⟩ := fault1 hI fx fm
    rw [k1, Option.bind_some, s_L147 (n := 1999) k2.2.2.2]
    unfold g_X6_readWord
    rw [kb2_bind]
    refine rel_bindL (p_here vx) (fun r er => ?_)
    rw [er, if_neg c, kb2_assoc]
    refine sg vx 119 (fun q => absurd q c) (fun _ => ?_)
    rw [if_pos rfl, kb2_sm, if_pos rfl]
    exact gbd k2 k3 k4 (fun a b h => Or.inl h)
/-- a draft of 65 naughts, then the text -/
theorem p_zero (v : Mm) {P : Mm → Int32 → Prop} {Q : Int32 × Mm → Prop} (hP : ∀ w x, (∀ j, j < 65 → w 37 0 j = 0) → (∀ t i j, t ≠ 37 → w t i j = v t i j) → P w x) (hQ : ∀ w x, P w x → pk (gK0 w x) Q) : pk (g_X8_gate v) Q := by
  have e65 : (65 : Int32).toInt = 65 := by decide
  have e1 : (1 : Int32).toInt = 1 := by decide
  have loop : ∀ (n : Nat) (w : Mm) (x : Int32) (k : Nat), x.toInt = (k : Int) → k ≤ 65 → ((∀ j, j < k → w 37 0 j = 0) ∧ ∀ t i j, t ≠ 37 → w t i j = v t i j) → pk (g_X8_gate_L2 n w x) Q := by
    intro n
    induction n with
    | zero => intro w x k _ _ _ b e; cases e
    | succ n ih =>
      intro w x k hx hk hw
      rw [q_L2]
      refine pk_ite _ (fun c => ?_) (fun c => ?_)
      · have := i_le c
        obtain rfl : k = 65 := by omega
        exact hQ w x (hP w x hw.1 hw.2)
      · have := i_nle c
        refine pk_grd _ (fun _ => pk_let (fun w1 ew1 => ?_))
        have hc : Int32.toNatClampNeg x = k := by rw [tcn]; omega
        rw [hc] at ew1
        have e2 := sp_addx x 1 (by omega)
        refine ih w1 (x + 1) (k + 1) (by omega) (by omega) ⟨fun j hj => ?_, fun t i j hn => ?_⟩
        · by_cases q : j = k
          · rw [ew1, q]; exact up3_s
          · rw [ew1, up3_j q]; exact hw.1 j (by omega)
        · rw [ew1, up3_t hn]; exact hw.2 t i j hn
  unfold g_X8_gate
  exact loop 2000 v 0 0 (by decide) (by omega) ⟨fun j hj => absurd hj (Nat.not_lt_zero j), fun _ _ _ _ => rfl⟩
theorem rel_pkR {γ δ : Type} {A : Option γ} {B : Option δ} {Q : γ → δ → Prop} (h : ∀ a, A = some a → pk B (Q a)) : rel A B Q := fun a b e1 e2 => h a e1 b e2
theorem rel_toR {γ δ : Type} {A : Option γ} {B : Option δ} {Q : γ → δ → Prop} (h : rel A B Q) {a : γ} (ha : A = some a) : pk B (Q a) := fun b e2 => h a b ha e2
theorem r_read {vx vm : Mm} (hX : PW rgX vx) (hT : RT vx vm) : rel (g_X6_read vx) (g_X8_gate vm) (GQ vx vm) := by
  refine rel_pkR (fun a0 ha0 => ?_)
  refine p_zero vm (P := fun w x => (∀ j, j < 65 → w 37 0 j = 0) ∧ (∀ t i j, t ≠ 37 → w t i j = vm t i j)) (fun w x h1 h2 => ⟨h1, h2⟩) (fun w xx hw => ?_)
  refine rel_toR ?_ ha0
  obtain ⟨hw1, hw2⟩ := hw
  unfold g_X6_read gK0
  refine rel_letL (fun v1 e1 => rel_letL (fun v2 e2 => rel_letL (fun v3 e3 => rel_letR (fun m2 f2 => rel_letR (fun m3 f3 => ?_)))))
  have hl : (0 : Int) ≤ (vx 4 0 2).toInt ∧ (vx 4 0 2).toInt ≤ (100 : Int) := hX 4 0 2
  have m9 : m3 30 0 9 = 0 := by rw [f3, up3_j (by decide), f2]; exact up3_s
  have m8 : m3 30 0 8 = -1 := by rw [f3]; exact up3_s
  have m6 : m3 30 0 6 = vm 30 0 6 := by rw [f3, up3_j (by decide), f2, up3_j (by decide)]; exact hw2 _ _ _ (by decide)
  have m35 : m3 35 0 = vm 35 0 := by rw [f3, up3_far (by decide), f2, up3_far (by decide)]; exact funext (fun j => hw2 35 0 j (by decide))
  have x5 : v3 4 0 5 = 0 := by rw [e3, up3_t (by decide), e2, up3_t (by decide), e1]; exact up3_s
  have x2 : v3 4 0 2 = vx 4 0 2 := by rw [e3, up3_t (by decide), e2, up3_t (by decide), e1]; exact up3_j (by decide)
  have xb : v3 5 0 = vx 5 0 := by rw [e3, up3_far (by decide), e2, up3_far (by decide), e1, up3_far (by decide)]
  have x66 : v3 6 1 6 = 0 := by rw [e3, up3_j (by decide), e2]; exact up3_s
  have x67 : v3 6 1 7 = 0 := by rw [e3]; exact up3_s
  have e0 : (0 : Int32).toInt = 0 := by decide
  have eb : vx 5 0 = vm 35 0 := funext hT.2
  refine rel_bindR (p_adv m3 (by rw [m9, e0]; omega) (by rw [m9, e0]; omega) (by rw [m6, ← hT.1]; omega)) (fun v6 h6 => ?_)
  obtain ⟨k1, k2, k3⟩ := h6
  rw [m9, m6, m35] at k3
  rw [m9] at k2
  have hI : INV v3 v6 := by
    refine ⟨⟨?_, fun k => ?_⟩, ?_, ?_, ?_, ?_, ?_, ?_, ?_⟩
    · rw [x2, k1 30 0 6 rfl, m6]; exact hT.1
    · rw [xb, k1 35 0 k rfl, m35]; exact hT.2 k
    · rw [x2]; exact hl.2
    · rw [x5, e0]; omega
    · rw [x5, e0, x2]; exact hl.1
    · intro k
      rw [xb]
      exact hX 5 0 k
    · rw [k1 30 0 8 rfl]; exact m8
    · rw [k2, x5]
    · rw [x2, xb, x5, hT.1, eb]; exact k3
  have fx : FPX vx v3 := by
    rw [e3]
    refine FPX.tr ?_ (FPX.up (Or.inr (by decide)))
    rw [e2]
    refine FPX.tr ?_ (FPX.up (Or.inr (by decide)))
    rw [e1]
    exact FPX.up (Or.inl rfl)
  have fm : FPM vm v6 := by
    refine FPM.tr ?_ (FPM.of k1 (by decide))
    rw [f3]
    refine FPM.tr ?_ (FPM.up (Or.inr (by decide)))
    rw [f2]
    refine FPM.tr ?_ (FPM.up (Or.inr (by decide)))
    intro t i j h1 h2 h3 h4
    exact hw2 t i j h3
  have hz : Z3 v6 := fun j h1 h2 => by
    rw [k1 37 0 j rfl, f3, up3_t (by decide), f2, up3_t (by decide)]; exact hw1 j h2
  rw [ite_and2]
  refine st_law (fun v => if_pos rfl) hI x66 x67 hz fx fm (fun vx' vm' i1 i2 i3 i4 i5 i6 => ?_)
  rw [if_neg (by decide)]
  exact st_first i1 i2 i3 i4 i5 i6
/-- the call: answers alike; the gate told stands on both sides, or the same fault -/
def GTQ (vx vm : Mm) (a b : Int32 × Mm) : Prop := a.1 = b.1 ∧ ((a.2 0 0 7 = b.2 30 0 7 ∧ (∀ t i j, t ≠ 4 → t < 30 → (i ≠ 1 ∨ t < 6 ∨ 14 < t) → (t = 0 → j < 60 ∧ j ≠ 7) → (t = 15 → j < 60) → a.2 t i j = vx t i j) ∧ FPMf vm b.2) ∨ ((RSt a.2 0 b.2 36 0 ∧ RMo a.2 0 b.2 36 0 ∧ a.2 15 0 2 = 0 ∧ b.2 30 0 17 = 0) ∧ (∀ t i j, t ≠ 4 → t < 30 → ((i ≠ 1 ∧ i ≠ 0) ∨ t < 6 ∨ 14 < t) → (t = 0 → j < 60) → (t = 15 → j < 60 ∧ j ≠ 2) → a.2 t i j = vx t i j) ∧ ∀ t i j, 30 ≤ t → t < 50 → t ≠ 37 → t ≠ 36 → (t = 30 → j < 6 ∨ j = 7 ∨ (12 < j ∧ j < 60 ∧ j ≠ 17)) → b.2 t i j = vm t i j))
theorem r_gate {vx vm : Mm} (hX : PW rgX vx) (hT : RT vx vm) : rel (g_X7_gate vx) (g_X8_gate vm) (GTQ vx vm) := by
  refine rel_pkR (fun a0 ha0 b0 hb0 => ?_)
  have hr := r_read hX hT
  cases hq : g_X6_read vx with
  | none => unfold g_X7_gate at ha0; rw [hq] at ha0; cases ha0
  | some z =>
    have hg := hr z b0 hq hb0
    obtain ⟨r, v3⟩ := z
    unfold g_X7_gate at ha0
    rw [kb2_some hq] at ha0
    rcases hg with ⟨c1, c2, c3, c4, c5⟩ | ⟨c1, c2, c3, c4, c5, c6, c7⟩
    · have c1 : r = 0 := c1
      have c2 : b0.1 = ((-1000100)) - (v3 4 0 4) := c2
      have c3 : v3 4 0 3 = b0.2 30 0 7 := c3
      have c4 : FPX vx v3 := c4
      subst c1
      have e : a0 = (((-1000100)) - (v3 4 0 4), up3 (up3 v3 4 0 2 0) 0 0 7 (v3 4 0 3)) := by
        have q : some (((-1000100)) - ((up3 (up3 v3 4 0 2 0) 0 0 7 ((up3 v3 4 0 2 0) 4 0 3)) 4 0 4), up3 (up3 v3 4 0 2 0) 0 0 7 ((up3 v3 4 0 2 0) 4 0 3)) = some a0 := ha0
        rw [← Option.some.inj q, show (up3 v3 4 0 2 0) 4 0 3 = v3 4 0 3 from up3_j (by decide), show (up3 (up3 v3 4 0 2 0) 0 0 7 (v3 4 0 3)) 4 0 4 = v3 4 0 4 from (up3_t (by decide)).trans (up3_j (by decide))]
      rw [e]
      refine ⟨c2.symm, Or.inl ⟨?_, fun t i j h1 h2 h3 h4 h5 => ?_, c5⟩⟩
      · show up3 (up3 v3 4 0 2 0) 0 0 7 (v3 4 0 3) 0 0 7 = b0.2 30 0 7
        rw [up3_s]; exact c3
      · show up3 (up3 v3 4 0 2 0) 0 0 7 (v3 4 0 3) t i j = vx t i j
        have hv : v3 t i j = vx t i j := c4 t i j h1 h2 h3 (fun q => by rcases q with q | q; exact (h4 q).1; exact h5 q)
        rw [← hv]
        unfold up3
        rw [if_neg (fun q => by have := h4 q.1; omega), if_neg (fun q => h1 q.1)]
    · have c1 : r = 1 := c1
      have c2 : b0.1 = v3 6 1 6 := c2
      have c3 : RSt v3 1 b0.2 36 0 := c3
      have c4 : RMo v3 1 b0.2 36 0 := c4
      have c6 : FPX vx v3 := c6
      subst c1
      have q : Option.bind (g_X2_become (up3 v3 4 0 2 0) 0 1) (fun v8 => Option.bind (g_X0_forget v8) (fun v11 => some (v11 6 0 6, v11))) = some a0 := ha0
      have key : pk (Option.bind (g_X2_become (up3 v3 4 0 2 0) 0 1) (fun v8 => Option.bind (g_X0_forget v8) (fun v11 => some (v11 6 0 6, v11)))) (fun a => GTQ vx vm a b0) := by
        refine pk_bind (p_gt _ 0 1) (fun v8 h8 => ?_)
        obtain ⟨⟨s1, s2, s3, s4⟩, ⟨t1, t2, t3, t4, t5⟩, u1⟩ := h8
        have cc : ∀ t i j, t ≠ 4 → (up3 v3 4 0 2 0) t i j = v3 t i j := fun t i j h => up3_t h
        show pk (some ((up3 v8 15 0 2 0) 6 0 6, up3 v8 15 0 2 0)) _
        have ff : ∀ t i j, t ≠ 15 → (up3 v8 15 0 2 0) t i j = v8 t i j := fun t i j h => up3_t h
        refine pk_some ⟨?_, Or.inr ⟨⟨c3.mv ?_ ?_ ?_ ?_ (fun _ _ => rfl), c4.mv ?_ ?_ ?_ ?_ ?_ (fun _ _ => rfl), ?_, c5⟩, fun t i j h1 h2 h3 h4 h5 => ?_, c7⟩⟩
        · show (up3 v8 15 0 2 0) 6 0 6 = b0.1
          rw [ff _ _ _ (by decide), s1 6 (by omega) (by omega), cc _ _ _ (by decide)]; exact c2.symm
        · intro j h1 h2
          show (up3 v8 15 0 2 0) 6 0 j = _
          rw [ff _ _ _ (by decide), s1 j h1 h2, cc _ _ _ (by decide)]
        · intro j h1
          show (up3 v8 15 0 2 0) 7 0 j = _
          rw [ff _ _ _ (by decide), s2 j h1, cc _ _ _ (by decide)]
        · intro j h1
          show (up3 v8 15 0 2 0) 8 0 j = _
          rw [ff _ _ _ (by decide), s3 j h1, cc _ _ _ (by decide)]
        · intro j h1
          show (up3 v8 15 0 2 0) 9 0 j = _
          rw [ff _ _ _ (by decide), s4 j h1, cc _ _ _ (by decide)]
        · intro j h1 h2
          show (up3 v8 15 0 2 0) 10 0 j = _
          rw [ff _ _ _ (by decide), t1 j h1 h2, cc _ _ _ (by decide)]
        · intro j h1
          show (up3 v8 15 0 2 0) 11 0 j = _
          rw [ff _ _ _ (by decide), t2 j h1, cc _ _ _ (by decide)]
        · intro j h1
          show (up3 v8 15 0 2 0) 12 0 j = _
          rw [ff _ _ _ (by decide), t3 j h1, cc _ _ _ (by decide)]
        · intro j h1
          show (up3 v8 15 0 2 0) 13 0 j = _
          rw [ff _ _ _ (by decide), t4 j h1, cc _ _ _ (by decide)]
        · intro j h1
          show (up3 v8 15 0 2 0) 14 0 j = _
          rw [ff _ _ _ (by decide), t5 j h1, cc _ _ _ (by decide)]
        · show (up3 v8 15 0 2 0) 15 0 2 = 0
          exact up3_s
        · show (up3 v8 15 0 2 0) t i j = vx t i j
          have hv : v3 t i j = vx t i j := c6 t i j h1 h2 (by omega) (fun q => by rcases q with q | q; exact h4 q; exact (h5 q).1)
          rw [← hv, ← cc t i j h1, ← u1 t i j (by omega)]
          unfold up3
          exact if_neg (fun q => by have := h5 q.1; omega)
      exact key a0 q
