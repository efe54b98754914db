/-! asks, and the trace of the bodies that began -/
def TRR (vx vm : Mm) : Prop := vx 21 0 1 = vm 30 0 22 ∧ 0 ≤ (vx 21 0 1).toInt ∧ ∀ k : Nat, (k : Int) < (vx 21 0 1).toInt → vx 22 0 k = vm 43 0 k
def TRA (vx vm : Mm) (g kd fee took : Int32) : Prop := TRR vx vm ∧ (vx 21 0 2 = g ∧ vx 21 0 3 = kd ∧ vx 21 0 4 = fee ∧ vx 21 0 5 = took) ∧ vm 36 0 (26 + 3 * Int32.toNatClampNeg g) = kd ∧ vm 36 0 (26 + 3 * Int32.toNatClampNeg g + 1) = fee ∧ vm 36 0 (26 + 3 * Int32.toNatClampNeg g + 2) = took
theorem tr_ls {γ δ : Type} {vx vm : Mm} {g kd fee took b : Int32} {F : Mm → Option γ} {K : Mm → Option δ} {Q : γ → δ → Prop} (h : TRA vx vm g kd fee took) (k : ∀ vx' vm', TRA vx' vm' g kd fee took → rel (F vx') (K vm') Q) : rel (Option.bind (g_X1_leave vx b) F) (Option.bind (g_X8_begins vm b) K) Q := by
  have hh := h
  obtain ⟨⟨t1, t2, t3⟩, ⟨h2, h3, h4, h5⟩, m1, m2, m3⟩ := h
  have e1 : (1 : Int32).toInt = 1 := by decide
  have e16 : (16 : Int32).toInt = 16 := by decide
  unfold g_X1_leave g_X8_begins
  rw [← t1]
  by_cases c : 16 ≤ vx 21 0 1
  · rw [if_pos c, if_pos c]; exact k vx vm hh
  · have c' := i_nle c
    rw [if_neg c, if_neg c]
    by_cases q : vx 21 0 1 < 0 ∨ 16 ≤ Int32.toNatClampNeg (vx 21 0 1)
    · rw [if_pos q]; intro a b e; cases e
    · rw [if_neg q, if_neg q]
      obtain ⟨u, eu⟩ : ∃ u, u = up3 vx 22 0 (Int32.toNatClampNeg (vx 21 0 1)) b := ⟨_, rfl⟩
      obtain ⟨w, ew⟩ : ∃ w, w = up3 vm 43 0 (Int32.toNatClampNeg (vx 21 0 1)) b := ⟨_, rfl⟩
      rw [← eu, ← ew]
      show rel (F (up3 u 21 0 1 (u 21 0 1 + 1))) (K (up3 w 30 0 22 (w 30 0 22 + 1))) Q
      have u1 : u 21 0 1 = vx 21 0 1 := by rw [eu]; exact up3_t (by decide)
      have w1 : w 30 0 22 = vx 21 0 1 := by rw [ew, up3_t (by decide)]; exact t1.symm
      have ut : ∀ j, j ≠ 1 → up3 u 21 0 1 (u 21 0 1 + 1) 21 0 j = vx 21 0 j := fun j hj => by rw [up3_j hj, eu]; exact up3_t (by decide)
      have wt : ∀ j, up3 w 30 0 22 (w 30 0 22 + 1) 36 0 j = vm 36 0 j := fun j => by rw [up3_t (by decide), ew]; exact up3_t (by decide)
      have s := sp_addx (vx 21 0 1) 1 (by omega)
      have tc := tcn (vx 21 0 1)
      refine k _ _ ⟨⟨?_, ?_, fun j hj => ?_⟩, ⟨?_, ?_, ?_, ?_⟩, ?_, ?_, ?_⟩
      · rw [up3_s, up3_s, u1, w1]
      · rw [up3_s, u1]; omega
      · rw [up3_s, u1] at hj
        rw [up3_t (by decide), up3_t (by decide), eu, ew]
        by_cases z : j = Int32.toNatClampNeg (vx 21 0 1)
        · rw [z, up3_s, up3_s]
        · rw [up3_j z, up3_j z]; exact t3 j (by omega)
      · rw [ut 2 (by decide)]; exact h2
      · rw [ut 3 (by decide)]; exact h3
      · rw [ut 4 (by decide)]; exact h4
      · rw [ut 5 (by decide)]; exact h5
      · rw [wt]; exact m1
      · rw [wt]; exact m2
      · rw [wt]; exact m3
/-! the bodies of the class, one by one -/
theorem q_gv (n : Nat) (v : Mm) (b d : Int32) : g_X1_given (n + 1) v b d = b_X1_given (g_X1_given n) v b d := rfl
theorem q_g10 (n : Nat) (v : Mm) {d : Int32} (hd : d ≤ 20) : g_X1_given (n + 1) v 10 d = Option.bind (g_X1_leave v 10) (fun v4 => some (v4 21 0 4, v4)) := by
  rw [q_gv]; unfold b_X1_given; rw [if_pos hd]; rfl
theorem q_g11 (n : Nat) (v : Mm) {d : Int32} (hd : d ≤ 20) : g_X1_given (n + 1) v 11 d = Option.bind (g_X1_leave v 11) (fun v4 => kb2 (g_X1_given n v4 10 (d + 1)) (fun r8 v9 => Option.bind (g_X1_markBody v9) (fun r11 => kb2 (g_X1_given n v9 r11 (d + 1)) (fun r14 v15 => some (r8 + r14, v15))))) := by
  rw [q_gv]; unfold b_X1_given; rw [if_pos hd]; rfl
theorem q_g12 (n : Nat) (v : Mm) {d : Int32} (hd : d ≤ 20) : g_X1_given (n + 1) v 12 d = Option.bind (g_X1_leave v 12) (fun v4 => kb2 (g_X1_given n v4 11 (d + 1)) (fun r18 v19 => some (-r18, v19))) := by
  rw [q_gv]; unfold b_X1_given; rw [if_pos hd]; rfl
theorem q_g13 (n : Nat) (v : Mm) {d : Int32} (hd : d ≤ 20) : g_X1_given (n + 1) v 13 d = Option.bind (g_X1_leave v 13) (fun v4 => kb2 (g_X1_given n v4 10 (d + 1)) (fun r22 v23 => some (r22 - 100, v23))) := by
  rw [q_gv]; unfold b_X1_given; rw [if_pos hd]; rfl
theorem q_g14 (n : Nat) (v : Mm) {d : Int32} (hd : d ≤ 20) : g_X1_given (n + 1) v 14 d = Option.bind (g_X1_leave v 14) (fun v4 => kb2 (g_X1_given n v4 13 (d + 1)) (fun r26 v27 => some (r26 * 2, v27))) := by
  rw [q_gv]; unfold b_X1_given; rw [if_pos hd]; rfl
theorem q_g20 (n : Nat) (v : Mm) {d : Int32} (hd : d ≤ 20) : g_X1_given (n + 1) v 20 d = Option.bind (g_X1_leave v 20) (fun v4 => some (v4 21 0 2, v4)) := by
  rw [q_gv]; unfold b_X1_given; rw [if_pos hd]; rfl
theorem q_g21 (n : Nat) (v : Mm) {d : Int32} (hd : d ≤ 20) : g_X1_given (n + 1) v 21 d = Option.bind (g_X1_leave v 21) (fun v4 => kb2 (g_X1_given n v4 20 (d + 1)) (fun r36 v37 => some (r36 + (v37 21 0 5), v37))) := by
  rw [q_gv]; unfold b_X1_given; rw [if_pos hd]; rfl
theorem q_g22 (n : Nat) (v : Mm) {d : Int32} (hd : d ≤ 20) : g_X1_given (n + 1) v 22 d = Option.bind (g_X1_leave v 22) (fun v4 => kb2 (g_X1_given n v4 21 (d + 1)) (fun r40 v41 => some (r40 - 1000, v41))) := by
  rw [q_gv]; unfold b_X1_given; rw [if_pos hd]; rfl
theorem q_g23 (n : Nat) (v : Mm) {d : Int32} (hd : d ≤ 20) : g_X1_given (n + 1) v 23 d = Option.bind (g_X1_leave v 23) (fun v4 => kb2 (g_X1_given n v4 20 (d + 1)) (fun r44 v45 => Option.bind (g_X1_sizeBody v45) (fun r47 => kb2 (g_X1_given n v45 r47 (d + 1)) (fun r50 v51 => some (r44 - r50, v51))))) := by
  rw [q_gv]; unfold b_X1_given; rw [if_pos hd]; rfl
theorem q_g24 (n : Nat) (v : Mm) {d : Int32} (hd : d ≤ 20) : g_X1_given (n + 1) v 24 d = Option.bind (g_X1_leave v 24) (fun v4 => kb2 (g_X1_given n v4 21 (d + 1)) (fun r54 v55 => some (r54 * 2, v55))) := by
  rw [q_gv]; unfold b_X1_given; rw [if_pos hd]; rfl
/-! bodies of both sides at once -/
section ASK
variable {γ δ : Type} {vx vm : Mm} {g kd fee took d : Int32} {n : Nat} {F : Int32 → Mm → Option γ} {K : Mm → Option δ} {L : Int32 → Mm → Option δ} {Q : γ → δ → Prop}
theorem G10 (h : TRA vx vm g kd fee took) (hd : d ≤ 20) (k : ∀ vx' vm', TRA vx' vm' g kd fee took → rel (F fee vx') (K vm') Q) : rel (kb2 (g_X1_given (n + 1) vx 10 d) F) (Option.bind (g_X8_begins vm 10) K) Q := by
  rw [q_g10 n vx hd, kb2_bind]
  refine tr_ls h (fun vx' vm' h' => ?_)
  show rel (F (vx' 21 0 4) vx') _ _
  rw [h'.2.1.2.2.1]; exact k vx' vm' h'
theorem G20 (h : TRA vx vm g kd fee took) (hd : d ≤ 20) (k : ∀ vx' vm', TRA vx' vm' g kd fee took → rel (F g vx') (K vm') Q) : rel (kb2 (g_X1_given (n + 1) vx 20 d) F) (Option.bind (g_X8_begins vm 20) K) Q := by
  rw [q_g20 n vx hd, kb2_bind]
  refine tr_ls h (fun vx' vm' h' => ?_)
  show rel (F (vx' 21 0 2) vx') _ _
  rw [h'.2.1.1]; exact k vx' vm' h'
theorem G21 (h : TRA vx vm g kd fee took) (hd : d ≤ 20) (hd2 : d + 1 ≤ 20) (k : ∀ vx' vm', TRA vx' vm' g kd fee took → rel (F (g + took) vx') (K vm') Q) : rel (kb2 (g_X1_given (n + 1 + 1) vx 21 d) F) (Option.bind (g_X8_begins vm 21) (fun v7 => Option.bind (g_X8_begins v7 20) K)) Q := by
  rw [q_g21 (n + 1) vx hd, kb2_bind]
  refine tr_ls h (fun vx' vm' h' => ?_)
  rw [kb2_assoc]
  refine G20 h' hd2 (fun vx2 vm2 h2 => ?_)
  show rel (F (g + vx2 21 0 5) vx2) _ _
  rw [h2.2.1.2.2.2]; exact k vx2 vm2 h2
theorem G13 (h : TRA vx vm g kd fee took) (hd : d ≤ 20) (hd2 : d + 1 ≤ 20) (k : ∀ vx' vm', TRA vx' vm' g kd fee took → rel (F (fee - 100) vx') (K vm') Q) : rel (kb2 (g_X1_given (n + 1 + 1) vx 13 d) F) (Option.bind (g_X8_begins vm 13) (fun v7 => Option.bind (g_X8_begins v7 10) K)) Q := by
  rw [q_g13 (n + 1) vx hd, kb2_bind]
  refine tr_ls h (fun vx' vm' h' => ?_)
  rw [kb2_assoc]
  refine G10 h' hd2 (fun vx2 vm2 h2 => ?_)
  exact k vx2 vm2 h2
def kmV (kd x : Int32) : Int32 := if kd = 2 then (2 : Int32) * x else (if kd = 3 then x - 1000 else x)
def dsV (kd x : Int32) : Int32 := if kd = 5 then (2 : Int32) * x else x
/-- what the guards' numbers are at the reference -/
theorem tr_ix {g : Int32} (hg : 0 ≤ g.toInt ∧ g.toInt < 4) : Int32.toNatClampNeg ((26 : Int32) + ((3 : Int32) * g)) = 26 + 3 * Int32.toNatClampNeg g ∧ Int32.toNatClampNeg (((26 : Int32) + ((3 : Int32) * g)) + 1) = 26 + 3 * Int32.toNatClampNeg g + 1 ∧ Int32.toNatClampNeg (((26 : Int32) + ((3 : Int32) * g)) + 2) = 26 + 3 * Int32.toNatClampNeg g + 2 := by
  have ca := tcn g
  exact ixm (x := g) (k := Int32.toNatClampNeg g) 26 26 (by decide) (by omega) (by omega) (by omega)
theorem tr_kind (hg : 0 ≤ g.toInt ∧ g.toInt < 4) (h : TRA vx vm g kd fee took) : pk (g_X8_kindIn vm g) (fun r => r = kd) := by
  unfold g_X8_kindIn
  rw [(tr_ix hg).1]
  exact pk_grd _ (fun _ => pk_some h.2.2.1)
theorem KMk (hg : 0 ≤ g.toInt ∧ g.toInt < 4) (hk : kd = 1 ∨ kd = 2 ∨ kd = 3) (h : TRA vx vm g kd fee took) (hd : d ≤ 20) (hd2 : d + 1 ≤ 20) (hd3 : d + 1 + 1 ≤ 20) (k : ∀ vx' vm', TRA vx' vm' g kd fee took → rel (F (kmV kd (g + took)) vx') (L (kmV kd (g + took)) vm') Q) : rel (kb2 (g_X1_given (n + 1 + 1 + 1) vx (st_mark (Int32.toNatClampNeg kd)) d) F) (kb2 (g_X8_keenMark vm g) L) Q := by
  obtain ⟨-, -, x2⟩ := tr_ix hg
  unfold g_X8_keenMark
  simp only [kb2_bind]
  refine rel_bindR (tr_kind hg h) (fun r er => ?_)
  rw [er]
  rcases hk with hk | hk | hk
  · subst hk
    rw [if_pos (show (1 : Int32) = 1 from rfl)]
    simp only [kb2_bind]
    refine G21 (n := n + 1) (K := fun v10 => kb2 (if ((26 : Int32) + ((3 : Int32) * g)) + 2 < 0 ∨ 65 ≤ Int32.toNatClampNeg (((26 : Int32) + ((3 : Int32) * g)) + 2) then none else (Option.bind (some (g + (v10 36 0 (Int32.toNatClampNeg (((26 : Int32) + ((3 : Int32) * g)) + 2))))) (fun x12 => if (1 : Int32) = 2 then (some ((2 : Int32) * x12, v10)) else (if (1 : Int32) = 3 then (some (x12 - 1000, v10)) else (some (x12, v10)))))) L) h hd hd2 (fun vx' vm' h' => ?_)
    rw [x2, kb2_ite]
    refine rel_grdR _ (fun _ => ?_)
    show rel _ (L (g + vm' 36 0 (26 + 3 * Int32.toNatClampNeg g + 2)) vm') _
    rw [h'.2.2.2.2]; exact k vx' vm' h'
  · subst hk
    rw [if_neg (show ¬ (2 : Int32) = 1 by decide), if_pos (show (2 : Int32) = 2 from rfl)]
    simp only [kb2_bind]
    show rel (kb2 (g_X1_given (n + 1 + 1 + 1) vx 24 d) F) _ _
    rw [q_g24 (n + 1 + 1) vx hd, kb2_bind]
    refine tr_ls h (fun vx1 vm1 h1 => ?_)
    rw [kb2_assoc]
    refine G21 (n := n) (K := fun v37 => kb2 (if ((26 : Int32) + ((3 : Int32) * g)) + 2 < 0 ∨ 65 ≤ Int32.toNatClampNeg (((26 : Int32) + ((3 : Int32) * g)) + 2) then none else (Option.bind (some (g + (v37 36 0 (Int32.toNatClampNeg (((26 : Int32) + ((3 : Int32) * g)) + 2))))) (fun x39 => if (2 : Int32) = 2 then (some ((2 : Int32) * x39, v37)) else (if (2 : Int32) = 3 then (some (x39 - 1000, v37)) else (some (x39, v37)))))) L) h1 hd2 hd3 (fun vx' vm' h' => ?_)
    rw [x2, kb2_ite]
    refine rel_grdR _ (fun _ => ?_)
    show rel (F ((g + took) * 2) vx') (L ((2 : Int32) * (g + vm' 36 0 (26 + 3 * Int32.toNatClampNeg g + 2))) vm') _
    rw [h'.2.2.2.2, Int32.mul_comm]; exact k vx' vm' h'
  · subst hk
    rw [if_neg (show ¬ (3 : Int32) = 1 by decide), if_neg (show ¬ (3 : Int32) = 2 by decide)]
    simp only [kb2_bind]
    show rel (kb2 (g_X1_given (n + 1 + 1 + 1) vx 22 d) F) _ _
    rw [q_g22 (n + 1 + 1) vx hd, kb2_bind]
    refine tr_ls h (fun vx1 vm1 h1 => ?_)
    rw [kb2_assoc]
    refine G21 (n := n) (K := fun v24 => kb2 (if ((26 : Int32) + ((3 : Int32) * g)) + 2 < 0 ∨ 65 ≤ Int32.toNatClampNeg (((26 : Int32) + ((3 : Int32) * g)) + 2) then none else (Option.bind (some (g + (v24 36 0 (Int32.toNatClampNeg (((26 : Int32) + ((3 : Int32) * g)) + 2))))) (fun x26 => if (3 : Int32) = 2 then (some ((2 : Int32) * x26, v24)) else (if (3 : Int32) = 3 then (some (x26 - 1000, v24)) else (some (x26, v24)))))) L) h1 hd2 hd3 (fun vx' vm' h' => ?_)
    rw [x2, kb2_ite]
    refine rel_grdR _ (fun _ => ?_)
    show rel (F ((g + took) - 1000) vx') (L ((g + vm' 36 0 (26 + 3 * Int32.toNatClampNeg g + 2)) - 1000) vm') _
    rw [h'.2.2.2.2]; exact k vx' vm' h'
theorem DSz (hg : 0 ≤ g.toInt ∧ g.toInt < 4) (hk : kd = 4 ∨ kd = 5) (h : TRA vx vm g kd fee took) (hd : d ≤ 20) (hd2 : d + 1 ≤ 20) (hd3 : d + 1 + 1 ≤ 20) (k : ∀ vx' vm', TRA vx' vm' g kd fee took → rel (F (dsV kd (fee - 100)) vx') (L (dsV kd (fee - 100)) vm') Q) : rel (kb2 (g_X1_given (n + 1 + 1 + 1) vx (st_size (Int32.toNatClampNeg kd)) d) F) (kb2 (g_X8_deafSize vm g) L) Q := by
  obtain ⟨-, x1, -⟩ := tr_ix hg
  unfold g_X8_deafSize
  simp only [kb2_bind]
  refine rel_bindR (tr_kind hg h) (fun r er => ?_)
  rw [er]
  rcases hk with hk | hk
  · subst hk
    rw [if_neg (show ¬ (4 : Int32) = 5 by decide)]
    simp only [kb2_bind]
    refine G13 (n := n + 1) (K := fun v11 => kb2 (if ((26 : Int32) + ((3 : Int32) * g)) + 1 < 0 ∨ 65 ≤ Int32.toNatClampNeg (((26 : Int32) + ((3 : Int32) * g)) + 1) then none else (Option.bind (some ((v11 36 0 (Int32.toNatClampNeg (((26 : Int32) + ((3 : Int32) * g)) + 1))) - 100)) (fun x13 => some (x13, v11)))) L) h hd hd2 (fun vx' vm' h' => ?_)
    rw [x1, kb2_ite]
    refine rel_grdR _ (fun _ => ?_)
    show rel _ (L (vm' 36 0 (26 + 3 * Int32.toNatClampNeg g + 1) - 100) vm') _
    rw [h'.2.2.2.1]; exact k vx' vm' h'
  · subst hk
    rw [if_pos (show (5 : Int32) = 5 from rfl)]
    simp only [kb2_bind]
    show rel (kb2 (g_X1_given (n + 1 + 1 + 1) vx 14 d) F) _ _
    rw [q_g14 (n + 1 + 1) vx hd, kb2_bind]
    refine tr_ls h (fun vx1 vm1 h1 => ?_)
    rw [kb2_assoc]
    refine G13 (n := n) (K := fun v24 => kb2 (if ((26 : Int32) + ((3 : Int32) * g)) + 1 < 0 ∨ 65 ≤ Int32.toNatClampNeg (((26 : Int32) + ((3 : Int32) * g)) + 1) then none else (Option.bind (some ((v24 36 0 (Int32.toNatClampNeg (((26 : Int32) + ((3 : Int32) * g)) + 1))) - 100)) (fun x26 => some ((2 : Int32) * x26, v24)))) L) h1 hd2 hd3 (fun vx' vm' h' => ?_)
    rw [x1, kb2_ite]
    refine rel_grdR _ (fun _ => ?_)
    show rel (F ((fee - 100) * 2) vx') (L ((2 : Int32) * (vm' 36 0 (26 + 3 * Int32.toNatClampNeg g + 1) - 100)) vm') _
    rw [h'.2.2.2.1, Int32.mul_comm]; exact k vx' vm' h'
theorem tr_mark (hk : 1 ≤ kd.toInt ∧ kd.toInt ≤ 5) (h : TRA vx vm g kd fee took) : pk (g_X1_markBody vx) (fun r => r = st_mark (Int32.toNatClampNeg kd)) := by
  have e0 : (0 : Int32).toInt = 0 := by decide
  have e5 : (5 : Int32).toInt = 5 := by decide
  unfold g_X1_markBody
  rw [h.2.1.2.1]
  rw [if_neg (show ¬ kd < 0 from fun q => by have := i_lt q; omega), if_neg (show ¬ 5 < kd from fun q => by have := i_lt q; omega)]
  exact pk_grd _ (fun _ => pk_some rfl)
theorem tr_size (hk : 1 ≤ kd.toInt ∧ kd.toInt ≤ 5) (h : TRA vx vm g kd fee took) : pk (g_X1_sizeBody vx) (fun r => r = st_size (Int32.toNatClampNeg kd)) := by
  have e0 : (0 : Int32).toInt = 0 := by decide
  have e5 : (5 : Int32).toInt = 5 := by decide
  unfold g_X1_sizeBody
  rw [h.2.1.2.1]
  rw [if_neg (show ¬ kd < 0 from fun q => by have := i_lt q; omega), if_neg (show ¬ 5 < kd from fun q => by have := i_lt q; omega)]
  exact pk_grd _ (fun _ => pk_some rfl)
theorem k3_rg (hk : kd = 1 ∨ kd = 2 ∨ kd = 3) : 1 ≤ kd.toInt ∧ kd.toInt ≤ 5 := by
  rcases hk with hk | hk | hk
  all_goals subst hk; decide
theorem k2_rg (hk : kd = 4 ∨ kd = 5) : 1 ≤ kd.toInt ∧ kd.toInt ≤ 5 := by
  rcases hk with hk | hk
  all_goals subst hk; decide
theorem KS11 {M : Int32 → Mm → Option δ} (hg : 0 ≤ g.toInt ∧ g.toInt < 4) (hk : kd = 1 ∨ kd = 2 ∨ kd = 3) (h : TRA vx vm g kd fee took) (hd : d ≤ 20) (hd2 : d + 1 ≤ 20) (hd3 : d + 1 + 1 ≤ 20) (hd4 : d + 1 + 1 + 1 ≤ 20) (k : ∀ vx' vm', TRA vx' vm' g kd fee took → rel (F (fee + kmV kd (g + took)) vx') (M (fee + kmV kd (g + took)) vm') Q) : rel (kb2 (g_X1_given (n + 1 + 1 + 1 + 1) vx 11 d) F) (Option.bind (g_X8_begins vm 11) (fun v8 => Option.bind (g_X8_begins v8 10) (fun v11 => if ((26 : Int32) + ((3 : Int32) * g)) + 1 < 0 ∨ 65 ≤ Int32.toNatClampNeg (((26 : Int32) + ((3 : Int32) * g)) + 1) then none else kb2 (g_X8_keenMark v11 g) (fun r14 v15 => M ((v11 36 0 (Int32.toNatClampNeg (((26 : Int32) + ((3 : Int32) * g)) + 1))) + r14) v15)))) Q := by
  obtain ⟨-, x1, -⟩ := tr_ix hg
  rw [q_g11 (n + 1 + 1 + 1) vx hd, kb2_bind]
  refine tr_ls h (fun v1 m1 h1 => ?_)
  rw [kb2_assoc]
  refine G10 (n := n + 1 + 1) h1 hd2 (fun v2 m2 h2 => ?_)
  rw [kb2_bind]
  refine rel_bindL (tr_mark (k3_rg hk) h2) (fun r er => ?_)
  rw [er, kb2_assoc, x1]
  refine rel_grdR _ (fun _ => ?_)
  rw [h2.2.2.2.1]
  refine KMk hg hk h2 hd2 hd3 hd4 (fun v3 m3 h3 => ?_)
  exact k v3 m3 h3
def ksV (kd x : Int32) : Int32 := if kd = 2 then -x else x
theorem KSz (hg : 0 ≤ g.toInt ∧ g.toInt < 4) (hk : kd = 1 ∨ kd = 2 ∨ kd = 3) (h : TRA vx vm g kd fee took) (hd : d ≤ 20) (hd2 : d + 1 ≤ 20) (hd3 : d + 1 + 1 ≤ 20) (hd4 : d + 1 + 1 + 1 ≤ 20) (hd5 : d + 1 + 1 + 1 + 1 ≤ 20) (k : ∀ vx' vm', TRA vx' vm' g kd fee took → rel (F (ksV kd (fee + kmV kd (g + took))) vx') (L (ksV kd (fee + kmV kd (g + took))) vm') Q) : rel (kb2 (g_X1_given (n + 1 + 1 + 1 + 1 + 1) vx (st_size (Int32.toNatClampNeg kd)) d) F) (kb2 (g_X8_keenSize vm g) L) Q := by
  unfold g_X8_keenSize
  simp only [kb2_bind]
  refine rel_bindR (tr_kind hg h) (fun r er => ?_)
  rw [er]
  have hk2 := hk
  rcases hk with hk | hk | hk
  · subst hk
    rw [if_neg (show ¬ (1 : Int32) = 2 by decide)]
    simp only [kb2_bind, kb2_ite, kb2_assoc]
    exact KS11 (n := n + 1) (M := L) hg hk2 h hd hd2 hd3 hd4 k
  · subst hk
    rw [if_pos (show (2 : Int32) = 2 from rfl)]
    simp only [kb2_bind, kb2_ite, kb2_assoc]
    show rel (kb2 (g_X1_given (n + 1 + 1 + 1 + 1 + 1) vx 12 d) F) _ _
    rw [q_g12 (n + 1 + 1 + 1 + 1) vx hd, kb2_bind]
    refine tr_ls h (fun v1 m1 h1 => ?_)
    rw [kb2_assoc]
    exact KS11 (n := n) (M := fun x v => L (-x) v) hg hk2 h1 hd2 hd3 hd4 hd5 k
  · subst hk
    rw [if_neg (show ¬ (3 : Int32) = 2 by decide)]
    simp only [kb2_bind, kb2_ite, kb2_assoc]
    exact KS11 (n := n + 1) (M := L) hg hk2 h hd hd2 hd3 hd4 k
theorem DMk (hg : 0 ≤ g.toInt ∧ g.toInt < 4) (hk : kd = 4 ∨ kd = 5) (h : TRA vx vm g kd fee took) (hd : d ≤ 20) (hd2 : d + 1 ≤ 20) (hd3 : d + 1 + 1 ≤ 20) (hd4 : d + 1 + 1 + 1 ≤ 20) (k : ∀ vx' vm', TRA vx' vm' g kd fee took → rel (F (g - dsV kd (fee - 100)) vx') (L (g - dsV kd (fee - 100)) vm') Q) : rel (kb2 (g_X1_given (n + 1 + 1 + 1 + 1) vx 23 d) F) (kb2 (g_X8_deafMark vm g) L) Q := by
  unfold g_X8_deafMark
  simp only [kb2_bind, kb2_assoc]
  rw [q_g23 (n + 1 + 1 + 1) vx hd, kb2_bind]
  refine tr_ls h (fun v1 m1 h1 => ?_)
  rw [kb2_assoc]
  refine G20 (n := n + 1 + 1) h1 hd2 (fun v2 m2 h2 => ?_)
  rw [kb2_bind]
  refine rel_bindL (tr_size (k2_rg hk) h2) (fun r er => ?_)
  rw [er, kb2_assoc]
  refine DSz hg hk h2 hd2 hd3 hd4 (fun v3 m3 h3 => ?_)
  exact k v3 m3 h3
end ASK
theorem k_cases {kd : Int32} (h : 1 ≤ kd.toInt ∧ kd.toInt ≤ 5) : (kd = 1 ∨ kd = 2 ∨ kd = 3) ∨ (kd = 4 ∨ kd = 5) := by
  have e1 : (1 : Int32).toInt = 1 := by decide
  have e2 : (2 : Int32).toInt = 2 := by decide
  have e3 : (3 : Int32).toInt = 3 := by decide
  have e4 : (4 : Int32).toInt = 4 := by decide
  have e5 : (5 : Int32).toInt = 5 := by decide
  rcases (show kd.toInt = 1 ∨ kd.toInt = 2 ∨ kd.toInt = 3 ∨ kd.toInt = 4 ∨ kd.toInt = 5 by omega) with q | q | q | q | q
  · exact Or.inl (Or.inl (Int32.toInt_inj.mp (by omega)))
  · exact Or.inl (Or.inr (Or.inl (Int32.toInt_inj.mp (by omega))))
  · exact Or.inl (Or.inr (Or.inr (Int32.toInt_inj.mp (by omega))))
  · exact Or.inr (Or.inl (Int32.toInt_inj.mp (by omega)))
  · exact Or.inr (Or.inr (Int32.toInt_inj.mp (by omega)))
def relT (vx vm : Mm) : Int32 × Mm → Int32 × Mm → Prop := fun a b => a.1 = b.1 ∧ (TRR vx vm → TRR a.2 b.2)
set_option maxHeartbeats 4000000 in
theorem r_ask {vx vm : Mm} (hX : PW rgX vx) (hG : GB vx vm) (a1 a2 : Int32) : rel (g_X7_ask vx a1 a2) (g_X8_ask vm a1 a2) (relT vx vm) := by
  have e0 : (0 : Int32).toInt = 0 := by decide
  have e1 : (1 : Int32).toInt = 1 := by decide
  have hg : (0 : Int) ≤ (vx 6 0 7).toInt ∧ (vx 6 0 7).toInt ≤ (4 : Int) := hX 6 0 7
  have e4 : vx 6 0 7 = vm 36 0 4 := hG.1.2.2.2.1
  unfold g_X7_ask g_X8_ask
  rw [bx_guard, bm_guard vm (by rw [← e4]; exact hg.1), rng3, b_in, ← e4]
  refine rel_ite Iff.rfl (fun c1 => ?_) (fun _ => rel_some ⟨rfl, fun q => q⟩)
  refine rel_ite Iff.rfl (fun c2 => ?_) (fun _ => rel_some ⟨rfl, fun q => q⟩)
  refine rel_grdL _ (fun _ => rel_grdL _ (fun _ => rel_grdL _ (fun _ => ?_)))
  have ca := tcn a1
  have hk := hG.1.2.2.2.2.2 (Int32.toNatClampNeg a1) (by omega) (by omega)
  have ht := hG.2.1.2.2.2.2.1 (Int32.toNatClampNeg a1) (by omega)
  rw [Nat.zero_add, Nat.zero_add, ← e4, if_pos (by omega)] at ht
  rw [Nat.zero_add, Nat.zero_add] at hk
  have h4 : 0 ≤ a1.toInt ∧ a1.toInt < 4 := ⟨c1.1, by omega⟩
  refine rel_bindL (Q := fun z => z 21 0 1 = 0 ∧ z 21 0 2 = a1 ∧ z 21 0 3 = vx 8 0 (Int32.toNatClampNeg a1) ∧ z 21 0 4 = vx 9 0 (Int32.toNatClampNeg a1) ∧ z 21 0 5 = vx 11 0 (Int32.toNatClampNeg a1)) ?_ (fun v12 hv => ?_)
  · unfold g_X1_turnTo
    refine pk_let (fun v1 e1 => pk_let (fun v2 e2 => pk_let (fun v3 e3 => pk_let (fun v4 e4 => pk_let (fun v5 e5 => pk_some ⟨?_, ?_, ?_, ?_, ?_⟩)))))
    · rw [e5, up3_s]
    · rw [e5, up3_j (by decide), e4, up3_j (by decide), e3, up3_j (by decide), e2, up3_j (by decide), e1, up3_s]
    · rw [e5, up3_j (by decide), e4, up3_j (by decide), e3, up3_j (by decide), e2, up3_s]
    · rw [e5, up3_j (by decide), e4, up3_j (by decide), e3, up3_s]
    · rw [e5, up3_j (by decide), e4, up3_s]
  refine rel_letR (fun v9 e9 => ?_)
  have h0 : TRA v12 v9 a1 (vx 8 0 (Int32.toNatClampNeg a1)) (vx 9 0 (Int32.toNatClampNeg a1)) (vx 11 0 (Int32.toNatClampNeg a1)) := by
    refine ⟨⟨?_, ?_, fun k q => ?_⟩, ⟨hv.2.1, hv.2.2.1, hv.2.2.2.1, hv.2.2.2.2⟩, ?_, ?_, ?_⟩
    · rw [hv.1, e9, up3_s]
    · rw [hv.1, e0]; omega
    · rw [hv.1, e0] at q; omega
    · rw [e9, up3_t (by decide)]; exact hk.1.symm
    · rw [e9, up3_t (by decide)]; exact hk.2.2.2.1.symm
    · rw [e9, up3_t (by decide)]; exact ht.symm
  have h15 : 1 ≤ (vx 8 0 (Int32.toNatClampNeg a1)).toInt ∧ (vx 8 0 (Int32.toNatClampNeg a1)).toInt ≤ 5 := ⟨hk.2.1, hk.2.2.1⟩
  refine rel_bindR (tr_kind h4 h0) (fun r11 er11 => ?_)
  rw [er11]
  obtain ⟨kd, ekd⟩ : ∃ k, k = vx 8 0 (Int32.toNatClampNeg a1) := ⟨_, rfl⟩
  rw [← ekd] at h0 h15 ⊢
  have d0 : (0 : Int32) ≤ 20 := by decide
  have d1 : (0 : Int32) + 1 ≤ 20 := by decide
  have d2 : (0 : Int32) + 1 + 1 ≤ 20 := by decide
  have d3 : (0 : Int32) + 1 + 1 + 1 ≤ 20 := by decide
  have d4 : (0 : Int32) + 1 + 1 + 1 + 1 ≤ 20 := by decide
  unfold g_X1_answer
  rcases k_cases h15 with k3 | k2
  · have l4 : kd < 4 := by
      rcases k3 with q | q | q
      all_goals rw [q]; decide
    rw [if_pos l4]
    by_cases z : a2 = 0
    · rw [if_pos z, if_pos z, kb2_bind]
      refine rel_bindL (tr_size h15 h0) (fun r9 er9 => ?_)
      rw [er9, kb2_assoc]
      exact KSz (n := 25) h4 k3 h0 d0 d1 d2 d3 d4 (fun vx' vm' h' => rel_some ⟨rfl, fun _ => h'.1⟩)
    · rw [if_neg z, if_neg z, kb2_bind]
      refine rel_bindL (tr_mark h15 h0) (fun r9 er9 => ?_)
      rw [er9, kb2_assoc]
      exact KMk (n := 27) h4 k3 h0 d0 d1 d2 (fun vx' vm' h' => rel_some ⟨rfl, fun _ => h'.1⟩)
  · have l4 : ¬ kd < 4 := by
      rcases k2 with q | q
      all_goals rw [q]; decide
    have m23 : st_mark (Int32.toNatClampNeg kd) = 23 := by
      rcases k2 with q | q
      all_goals rw [q]; rfl
    rw [if_neg l4]
    by_cases z : a2 = 0
    · rw [if_pos z, if_pos z, kb2_bind]
      refine rel_bindL (tr_size h15 h0) (fun r9 er9 => ?_)
      rw [er9, kb2_assoc]
      exact DSz (n := 27) h4 k2 h0 d0 d1 d2 (fun vx' vm' h' => rel_some ⟨rfl, fun _ => h'.1⟩)
    · rw [if_neg z, if_neg z, kb2_bind]
      refine rel_bindL (tr_mark h15 h0) (fun r9 er9 => ?_)
      rw [er9, m23, kb2_assoc]
      exact DMk (n := 26) h4 k2 h0 d0 d1 d2 d3 (fun vx' vm' h' => rel_some ⟨rfl, fun _ => h'.1⟩)
