/-! frames of the readers -/
def FPX (v w : Mm) : Prop := ∀ t i j, t ≠ 4 → t < 30 → (i ≠ 1 ∨ t < 6 ∨ 14 < t) → (t = 0 ∨ t = 15 → j < 60) → w t i j = v t i j
def FPM (v w : Mm) : Prop := ∀ t i j, 30 ≤ t → t < 50 → t ≠ 37 → (t = 30 → j < 6 ∨ j = 7 ∨ (12 < j ∧ j < 60)) → w t i j = v t i j
def FPMf (v w : Mm) : Prop := ∀ t i j, 30 ≤ t → t < 50 → t ≠ 37 → (t = 30 → j < 6 ∨ (12 < j ∧ j < 60)) → w t i j = v t i j
theorem FPX.refl (v : Mm) : FPX v v := fun _ _ _ _ _ _ _ => rfl
theorem FPM.refl (v : Mm) : FPM v v := fun _ _ _ _ _ _ _ => rfl
theorem FPX.tr {u v w : Mm} (h : FPX u v) (k : FPX v w) : FPX u w := fun t i j a b c d => (k t i j a b c d).trans (h t i j a b c d)
theorem FPM.tr {u v w : Mm} (h : FPM u v) (k : FPM v w) : FPM u w := fun t i j a b c d => (k t i j a b c d).trans (h t i j a b c d)
theorem not_in {S : List Nat} {lo hi k : Nat} (h : (S.all fun x => decide (lo ≤ x ∧ x ≤ hi)) = true) (hk : ¬ (lo ≤ k ∧ k ≤ hi)) : S.contains k = false := by
  cases q : S.contains k with
  | false => rfl
  | true => exact absurd (of_decide_eq_true (List.all_eq_true.mp h k (List.contains_iff_mem.mp q))) hk
theorem FPX.of {S : List Nat} {v w : Mm} (h : FR S v w) (hS : (S.all fun x => decide (302 ≤ x ∧ x ≤ 306)) = true) : FPX v w := by
  intro t i j h1 h2 h3 h4
  refine h t i j (not_in hS ?_)
  unfold ckey
  repeat' split
  all_goals omega
theorem FPM.of {S : List Nat} {v w : Mm} (h : FR S v w) (hS : (S.all fun x => decide (208 ≤ x ∧ x ≤ 212)) = true) : FPM v w := by
  intro t i j h1 h2 h3 h4
  refine h t i j (not_in hS ?_)
  unfold ckey
  repeat' split
  all_goals omega
theorem FPM.flt {u v w : Mm} (h : FPM u v) (k : FR [207, 208] v w) : FPMf u w := by
  intro t i j h1 h2 h3 h4
  rw [k t i j (not_in (lo := 207) (hi := 208) (by decide) ?_)]
  · exact h t i j h1 h2 h3 (fun q => by have := h4 q; omega)
  · unfold ckey
    repeat' split
    all_goals omega
theorem FPX.up {v : Mm} {t i j : Nat} {x : Int32} (h : t = 4 ∨ (i = 1 ∧ 6 ≤ t ∧ t ≤ 14)) : FPX v (up3 v t i j x) := by
  intro t2 i2 j2 h1 h2 h3 h4
  unfold up3
  exact if_neg (fun q => by omega)
theorem FPM.up {v : Mm} {t i j : Nat} {x : Int32} (h : t = 37 ∨ (t = 30 ∧ 8 ≤ j ∧ j ≤ 12)) : FPM v (up3 v t i j x) := by
  intro t2 i2 j2 h1 h2 h3 h4
  unfold up3
  exact if_neg (fun q => by omega)
/-! likeness of words -/
def d01 (x y : Int32) : Int32 := if x = y then 0 else 1
def dst (L : Nat → Int32) (a b : Nat) : Int32 := ((0 + d01 (L (3 * a)) (L (3 * b))) + d01 (L (3 * a + 1)) (L (3 * b + 1))) + d01 (L (3 * a + 2)) (L (3 * b + 2))
theorem dst_zero {L : Nat → Int32} {a b : Nat} : dst L a b = 0 ↔ (L (3 * a) = L (3 * b) ∧ L (3 * a + 1) = L (3 * b + 1) ∧ L (3 * a + 2) = L (3 * b + 2)) := by
  unfold dst d01
  by_cases h1 : L (3 * a) = L (3 * b)
  · by_cases h2 : L (3 * a + 1) = L (3 * b + 1)
    · by_cases h3 : L (3 * a + 2) = L (3 * b + 2)
      · rw [if_pos h1, if_pos h2, if_pos h3]; exact ⟨fun _ => ⟨h1, h2, h3⟩, fun _ => rfl⟩
      · rw [if_pos h1, if_pos h2, if_neg h3]; exact ⟨fun q => absurd q (by decide), fun q => absurd q.2.2 h3⟩
    · rw [if_pos h1, if_neg h2]
      refine ⟨fun q => ?_, fun q => absurd q.2.1 h2⟩
      by_cases h3 : L (3 * a + 2) = L (3 * b + 2)
      · rw [if_pos h3] at q; exact absurd q (by decide)
      · rw [if_neg h3] at q; exact absurd q (by decide)
  · rw [if_neg h1]
    refine ⟨fun q => ?_, fun q => absurd q.1 h1⟩
    by_cases h2 : L (3 * a + 1) = L (3 * b + 1)
    · by_cases h3 : L (3 * a + 2) = L (3 * b + 2)
      · rw [if_pos h2, if_pos h3] at q; exact absurd q (by decide)
      · rw [if_pos h2, if_neg h3] at q; exact absurd q (by decide)
    · by_cases h3 : L (3 * a + 2) = L (3 * b + 2)
      · rw [if_neg h2, if_pos h3] at q; exact absurd q (by decide)
      · rw [if_neg h2, if_neg h3] at q; exact absurd q (by decide)
theorem ix3 {a x : Int32} (h1 : 0 ≤ a.toInt) (h2 : a.toInt ≤ 6) (h3 : 0 ≤ x.toInt) (h4 : x.toInt ≤ 20) : Int32.toNatClampNeg (a * 3 + x) = 3 * Int32.toNatClampNeg a + Int32.toNatClampNeg x := by
  have e1 := sp_mulcx a 3 3 (by decide) (by omega)
  have e2 := sp_addx (a * 3) x (by omega)
  rw [tcn, tcn, tcn]
  omega
theorem dist_step {v : Mm} {i n : Nat} {a b x3 x4 : Int32} {P : Int32 → Prop} (h : ¬ 3 ≤ x4) (hP : pk (g_X2_distance_L5 v i a b n (x3 + d01 (v 7 i (Int32.toNatClampNeg (a * 3 + x4))) (v 7 i (Int32.toNatClampNeg (b * 3 + x4)))) (x4 + 1)) P) : pk (g_X2_distance_L5 v i a b (n + 1) x3 x4) P := by
  show pk (b_X2_distance_L5 (g_X2_distance_L5 v i a b n) v i a b x3 x4) P
  unfold b_X2_distance_L5
  rw [if_neg h]
  refine pk_grd _ (fun _ => pk_grd _ (fun _ => ?_))
  unfold d01 at hP
  refine pk_ite _ (fun c => ?_) (fun c => ?_)
  · rw [if_pos c, Int32.add_zero] at hP; exact hP
  · rw [if_neg c] at hP; exact hP
theorem p_dist (v : Mm) (i : Nat) (a b : Int32) (ha : 0 ≤ a.toInt ∧ a.toInt ≤ 6) (hb : 0 ≤ b.toInt ∧ b.toInt ≤ 6) : pk (g_X2_distance v i a b) (fun r => r = dst (v 7 i) (Int32.toNatClampNeg a) (Int32.toNatClampNeg b)) := by
  unfold g_X2_distance
  refine dist_step (n := 1999) (by decide) (dist_step (n := 1998) (by decide) (dist_step (n := 1997) (by decide) ?_))
  show pk (b_X2_distance_L5 (g_X2_distance_L5 v i a b 1996) v i a b _ _) _
  unfold b_X2_distance_L5
  rw [if_pos (by decide)]
  refine pk_some ?_
  rw [ix3 ha.1 ha.2 (by decide) (by decide), ix3 ha.1 ha.2 (by decide) (by decide), ix3 ha.1 ha.2 (by decide) (by decide), ix3 hb.1 hb.2 (by decide) (by decide), ix3 hb.1 hb.2 (by decide) (by decide), ix3 hb.1 hb.2 (by decide) (by decide)]
  rfl
theorem p_wasTold (v : Mm) (a1 : Int32) (h0 : 0 ≤ a1.toInt ∧ a1.toInt ≤ 5) : pk (g_X6_wasTold v a1) (fun r => (r = 1 ∧ ∃ o : Nat, (o : Int) < a1.toInt ∧ dst (v 7 1) (Int32.toNatClampNeg a1) o = 0) ∨ (r = 0 ∧ ∀ o : Nat, (o : Int) < a1.toInt → ¬ dst (v 7 1) (Int32.toNatClampNeg a1) o = 0)) := by
  have e1 : (1 : Int32).toInt = 1 := by decide
  have loop : ∀ (n : Nat) (x : Int32) (k : Nat), x.toInt = (k : Int) → (k : Int) ≤ a1.toInt → (∀ o : Nat, o < k → ¬ dst (v 7 1) (Int32.toNatClampNeg a1) o = 0) → pk (g_X6_wasTold_L2 v a1 n x) (fun r => (r = 1 ∧ ∃ o : Nat, (o : Int) < a1.toInt ∧ dst (v 7 1) (Int32.toNatClampNeg a1) o = 0) ∨ (r = 0 ∧ ∀ o : Nat, (o : Int) < a1.toInt → ¬ dst (v 7 1) (Int32.toNatClampNeg a1) o = 0)) := by
    intro n
    induction n with
    | zero => intro x k _ _ _ b e; cases e
    | succ n ih =>
      intro x k hx hk hn
      show pk (b_X6_wasTold_L2 (g_X6_wasTold_L2 v a1 n) v a1 x) _
      unfold b_X6_wasTold_L2
      refine pk_ite _ (fun c => ?_) (fun c => ?_)
      · have := i_le c
        exact pk_some (Or.inr ⟨rfl, fun o ho => hn o (by omega)⟩)
      · have := i_nle c
        have hc : Int32.toNatClampNeg x = k := by rw [tcn]; omega
        refine pk_bind (p_dist v 1 a1 x ⟨h0.1, by omega⟩ ⟨by omega, by omega⟩) (fun r er => ?_)
        rw [hc] at er
        refine pk_ite _ (fun c2 => ?_) (fun c2 => ?_)
        · exact pk_some (Or.inl ⟨rfl, k, by omega, er.symm.trans c2⟩)
        · have e2 := sp_addx x 1 (by omega)
          refine ih (x + 1) (k + 1) (by omega) (by omega) (fun o ho => ?_)
          by_cases q : o = k
          · rw [q, ← er]; exact c2
          · exact hn o (by omega)
  unfold g_X6_wasTold
  exact loop 2000 0 0 (by decide) (by omega) (fun o ho => absurd ho (Nat.not_lt_zero o))
def toldM (v : Mm) (a b c : Int32) (o : Nat) : Prop := v 37 0 (8 + 3 * o) = a ∧ v 37 0 (8 + 3 * o + 1) = b ∧ v 37 0 (8 + 3 * o + 2) = c
theorem ixm {x : Int32} {k : Nat} (d : Int32) (m : Nat) (hd : d.toInt = (m : Int)) (hm : m ≤ 100) (hx : x.toInt = (k : Int)) (hk : k ≤ 30) : Int32.toNatClampNeg (d + (3 : Int32) * x) = m + 3 * k ∧ Int32.toNatClampNeg ((d + (3 : Int32) * x) + 1) = m + 3 * k + 1 ∧ Int32.toNatClampNeg ((d + (3 : Int32) * x) + 2) = m + 3 * k + 2 := by
  have e1 : (1 : Int32).toInt = 1 := by decide
  have e2 : (2 : Int32).toInt = 2 := by decide
  have a1 := sp_cmulx 3 x 3 (by decide) (by omega)
  have a2 := sp_addx d ((3 : Int32) * x) (by omega)
  have a3 := sp_addx (d + (3 : Int32) * x) 1 (by omega)
  have a4 := sp_addx (d + (3 : Int32) * x) 2 (by omega)
  refine ⟨?_, ?_, ?_⟩ <;> (rw [tcn]; omega)
theorem p_isTold (v : Mm) (a b c : Int32) (h6 : (v 37 0 3).toInt ≤ 6) : pk (g_X8_isTold v a b c) (fun r => (r = 1 ∧ ∃ o : Nat, (o : Int) < (v 37 0 3).toInt ∧ toldM v a b c o) ∨ (r = 0 ∧ ∀ o : Nat, (o : Int) < (v 37 0 3).toInt → ¬ toldM v a b c o)) := by
  have e1 : (1 : Int32).toInt = 1 := by decide
  have loop : ∀ (n : Nat) (is x : Int32) (k : Nat), x.toInt = (k : Int) → k ≤ 6 → ((is = 1 ∧ ∃ o : Nat, (o : Int) < (v 37 0 3).toInt ∧ toldM v a b c o) ∨ (is = 0 ∧ ∀ o : Nat, o < k → ¬ toldM v a b c o)) → pk (g_X8_isTold_L6 v a b c n is x) (fun r => (r = 1 ∧ ∃ o : Nat, (o : Int) < (v 37 0 3).toInt ∧ toldM v a b c o) ∨ (r = 0 ∧ ∀ o : Nat, (o : Int) < (v 37 0 3).toInt → ¬ toldM v a b c o)) := by
    intro n
    induction n with
    | zero => intro is x k _ _ _ b e; cases e
    | succ n ih =>
      intro is x k hx hk hn
      show pk (b_X8_isTold_L6 (g_X8_isTold_L6 v a b c n) v a b c is x) _
      unfold b_X8_isTold_L6
      rw [tc_3]
      refine pk_ite _ (fun c0 => ?_) (fun c0 => ?_)
      · have := i_le c0
        refine pk_some ?_
        rcases hn with hn | ⟨q1, q2⟩
        · exact Or.inl hn
        · exact Or.inr ⟨q1, fun o ho => q2 o (by omega)⟩
      · have := i_nle c0
        have ex := sp_addx x 1 (by omega)
        obtain ⟨x1, x2, x3⟩ := ixm (x := x) (k := k) 8 8 (by decide) (by omega) hx (by omega)
        refine pk_ite _ (fun c1 => ?_) (fun c1 => ?_)
        · have hno : ∀ o : Nat, o < k → ¬ toldM v a b c o := by
            rcases hn with ⟨q1, -⟩ | ⟨-, q2⟩
            · rw [q1] at c1; exact absurd c1 (by decide)
            · exact q2
          have go0 : ¬ toldM v a b c k → pk (g_X8_isTold_L6 v a b c n 0 (x + 1)) (fun r => (r = 1 ∧ ∃ o : Nat, (o : Int) < (v 37 0 3).toInt ∧ toldM v a b c o) ∨ (r = 0 ∧ ∀ o : Nat, (o : Int) < (v 37 0 3).toInt → ¬ toldM v a b c o)) := fun hq => ih 0 (x + 1) (k + 1) (by omega) (by omega) (Or.inr ⟨rfl, fun o ho => by
            by_cases q : o = k
            · rw [q]; exact hq
            · exact hno o (by omega)⟩)
          rw [x1, x2, x3]
          refine pk_grd _ (fun _ => pk_ite _ (fun k1 => ?_) (fun k1 => go0 (fun z => k1 z.1)))
          refine pk_grd _ (fun _ => pk_ite _ (fun k2 => ?_) (fun k2 => go0 (fun z => k2 z.2.1)))
          refine pk_grd _ (fun _ => pk_ite _ (fun k3 => ?_) (fun k3 => go0 (fun z => k3 z.2.2)))
          exact ih 1 (x + 1) (k + 1) (by omega) (by omega) (Or.inl ⟨rfl, k, by omega, k1, k2, k3⟩)
        · refine ih 1 (x + 1) (k + 1) (by omega) (by omega) (Or.inl ⟨rfl, ?_⟩)
          rcases hn with ⟨-, q⟩ | ⟨q1, -⟩
          · exact q
          · exact absurd q1 c1
  unfold g_X8_isTold
  exact loop 2000 0 0 0 (by decide) (by omega) (Or.inr ⟨rfl, fun o ho => absurd ho (Nat.not_lt_zero o)⟩)
/-! the drafts -/
def allg (n : Int32) : Int32 := ((1 : Int32) <<< (n &&& 31)) - 1
def DW (vx vm : Mm) : Prop := vx 6 1 6 = vm 37 0 3 ∧ 0 ≤ (vx 6 1 6).toInt ∧ (vx 6 1 6).toInt ≤ 6 ∧ ∀ k : Nat, (k : Int) < 3 * (vx 6 1 6).toInt → vx 7 1 k = vm 37 0 (8 + k)
def DGd (vx vm : Mm) : Prop := vx 6 1 7 = vm 37 0 4 ∧ 0 ≤ (vx 6 1 7).toInt ∧ (vx 6 1 7).toInt ≤ 4 ∧ (∀ g : Nat, (g : Int) < (vx 6 1 7).toInt → vx 8 1 g = vm 37 0 (26 + 3 * g) ∧ 1 ≤ (vx 8 1 g).toInt ∧ (vx 8 1 g).toInt ≤ 5 ∧ vx 9 1 g = vm 37 0 (26 + 3 * g + 1) ∧ 0 ≤ (vx 9 1 g).toInt ∧ (vx 9 1 g).toInt ≤ 9) ∧ vm 37 0 6 = allg (vx 6 1 7) ∧ ∀ g : Nat, g < 4 → vm 37 0 (26 + 3 * g + 2) = 0
def DLz (vx vm : Mm) : Prop := vx 10 1 5 = vm 37 0 0 ∧ vx 6 1 4 = vm 37 0 1 ∧ vx 6 1 5 = vm 37 0 2 ∧ vm 37 0 5 = 0 ∧ vm 37 0 7 = 0
theorem DW.fr {S T : List Nat} {vx vm wx wm : Mm} (h : DW vx vm) (hx : FR S vx wx) (hm : FR T vm wm) (h1 : S.contains 6 = false ∧ S.contains 7 = false) (h2 : T.contains 37 = false) : DW wx wm := by
  have a : ∀ j, wx 6 1 j = vx 6 1 j := fun j => hx 6 1 j h1.1
  have b : ∀ j, wx 7 1 j = vx 7 1 j := fun j => hx 7 1 j h1.2
  have c : ∀ j, wm 37 0 j = vm 37 0 j := fun j => hm 37 0 j h2
  unfold DW
  simp only [a, b, c]
  exact h
theorem DGd.fr {S T : List Nat} {vx vm wx wm : Mm} (h : DGd vx vm) (hx : FR S vx wx) (hm : FR T vm wm) (h1 : S.contains 6 = false ∧ S.contains 8 = false ∧ S.contains 9 = false) (h2 : T.contains 37 = false) : DGd wx wm := by
  have a : ∀ j, wx 6 1 j = vx 6 1 j := fun j => hx 6 1 j h1.1
  have b : ∀ j, wx 8 1 j = vx 8 1 j := fun j => hx 8 1 j h1.2.1
  have b2 : ∀ j, wx 9 1 j = vx 9 1 j := fun j => hx 9 1 j h1.2.2
  have c : ∀ j, wm 37 0 j = vm 37 0 j := fun j => hm 37 0 j h2
  unfold DGd
  simp only [a, b, b2, c]
  exact h
theorem DLz.fr {S T : List Nat} {vx vm wx wm : Mm} (h : DLz vx vm) (hx : FR S vx wx) (hm : FR T vm wm) (h1 : S.contains 6 = false ∧ S.contains 10 = false) (h2 : T.contains 37 = false) : DLz wx wm := by
  have a : ∀ j, wx 6 1 j = vx 6 1 j := fun j => hx 6 1 j h1.1
  have b : ∀ j, wx 10 1 j = vx 10 1 j := fun j => hx 10 1 j h1.2
  have c : ∀ j, wm 37 0 j = vm 37 0 j := fun j => hm 37 0 j h2
  unfold DLz
  simp only [a, b, c]
  exact h
def DR (vx vm : Mm) : Prop := DW vx vm ∧ DGd vx vm ∧ DLz vx vm
theorem DR.fr {S T : List Nat} {vx vm wx wm : Mm} (h : DR vx vm) (hx : FR S vx wx) (hm : FR T vm wm) (h1 : (S.all fun x => decide (302 ≤ x ∧ x ≤ 306)) = true) (h2 : (T.all fun x => decide (206 ≤ x ∧ x ≤ 212)) = true) : DR wx wm := by
  have n6 := not_in (k := 6) h1 (by decide)
  have n7 := not_in (k := 7) h1 (by decide)
  have n8 := not_in (k := 8) h1 (by decide)
  have n9 := not_in (k := 9) h1 (by decide)
  have n10 := not_in (k := 10) h1 (by decide)
  have m37 := not_in (k := 37) h2 (by decide)
  exact ⟨h.1.fr hx hm ⟨n6, n7⟩ m37, h.2.1.fr hx hm ⟨n6, n8, n9⟩ m37, h.2.2.fr hx hm ⟨n6, n10⟩ m37⟩
/-! one word: the reference's reading in short rows -/
def rwF (k a b c : Int32) (v : Mm) : Option Mm := Option.bind (g_X8_isWell v) (fun r74 => if r74 = 0 then (some v) else (if k < 0 ∨ 65 ≤ Int32.toNatClampNeg k then none else (Option.bind (some (up3 v 37 0 (Int32.toNatClampNeg k) a)) (fun v78 => if k + 1 < 0 ∨ 65 ≤ Int32.toNatClampNeg (k + 1) then none else (Option.bind (some (up3 v78 37 0 (Int32.toNatClampNeg (k + 1)) b)) (fun v80 => if k + 2 < 0 ∨ 65 ≤ Int32.toNatClampNeg (k + 2) then none else (Option.bind (some (up3 v80 37 0 (Int32.toNatClampNeg (k + 2)) c)) (fun v82 => Option.bind (some (up3 v82 37 0 (Int32.toNatClampNeg 3) ((v82 37 0 (Int32.toNatClampNeg 3)) + 1))) (fun v83 => some v83)))))))))
def rwS (k a b c : Int32) (v : Mm) : Option Mm := if v 30 0 11 = 4 then (kb2 (g_X8_takes v 1 1) (fun _ w => rwF k a b c w)) else (kb2 (g_X8_takes v 0 1) (fun _ w => rwF k a b c w))
def rwT (k a b : Int32) (v : Mm) : Option Mm := Option.bind (g_X8_isTold v a b ((v 30 0 12) - 97)) (fun r17 => if r17 = 0 then (kb2 (g_X8_takes v 1 2) (fun r53 v54 => rwS k a b (r53 - 97) v54)) else (kb2 (g_X8_takes v 0 2) (fun r21 v22 => rwS k a b (r21 - 97) v22)))
def rwM (k a b : Int32) (v : Mm) : Option Mm := Option.bind (g_X8_isWell v) (fun r13 => if r13 = 0 then rwT k a b v else (if v 30 0 11 = 1 then rwT k a b v else (kb2 (g_X8_takes v 0 1) (fun _ w => rwT k a b w))))
def rwL (k : Int32) (v : Mm) : Option Mm := kb2 (g_X8_letterOf v) (fun a v8 => kb2 (g_X8_letterOf v8) (fun b v11 => rwM k a b v11))
def rwK (v : Mm) : Option Mm := if 6 ≤ v 37 0 (Int32.toNatClampNeg 3) then rwL ((8 : Int32) + ((3 : Int32) * 0)) v else (Option.bind (some ((8 : Int32) + ((3 : Int32) * (v 37 0 (Int32.toNatClampNeg 3))))) (fun x => rwL x v))
def rwA (v : Mm) : Option Mm := if 6 ≤ v 37 0 (Int32.toNatClampNeg 3) then (kb2 (g_X8_takes v 0 3) (fun _ w => rwK w)) else (kb2 (g_X8_takes v 1 3) (fun _ w => rwK w))
set_option maxRecDepth 100000 in
set_option maxHeartbeats 4000000 in
theorem q_readsWord (v : Mm) : g_X8_readsWord v = rwA v := rfl
theorem s_rwF {v : Mm} (h : 0 ≤ (v 30 0 8).toInt) (k a b c : Int32) : rwF k a b c v = some v := by
  unfold rwF; rw [q_ill h]; rfl
theorem s_rwS {v : Mm} (h : 0 ≤ (v 30 0 8).toInt) (k a b c : Int32) : rwS k a b c v = some v := by
  unfold rwS
  simp only [q_takes_s h, kb2_sm, s_rwF h, ite_self]
theorem s_rwT {v : Mm} (h : 0 ≤ (v 30 0 8).toInt) (k a b : Int32) : pk (rwT k a b v) (fun z => z = v) := by
  unfold rwT
  refine pk_bind0 (fun r => ?_)
  simp only [q_takes_s h, kb2_sm, s_rwS h, ite_self]
  exact pk_some rfl
theorem s_rwM {v : Mm} (h : 0 ≤ (v 30 0 8).toInt) (k a b : Int32) : pk (rwM k a b v) (fun z => z = v) := by
  unfold rwM
  rw [q_ill h]
  exact s_rwT h k a b
theorem s_rwL2 {v : Mm} (h : 0 ≤ (v 30 0 8).toInt) (k a : Int32) : pk (kb2 (g_X8_letterOf v) (fun b v11 => rwM k a b v11)) (fun z => z = v) := by
  rw [s_letterOf h]
  exact s_rwM h k a _
theorem s_rwL {v : Mm} (h : 0 ≤ (v 30 0 8).toInt) (k : Int32) : pk (rwL k v) (fun z => z = v) := by
  unfold rwL
  rw [s_letterOf h]
  exact s_rwL2 h k _
theorem s_rwK {v : Mm} (h : 0 ≤ (v 30 0 8).toInt) : pk (rwK v) (fun z => z = v) := by
  unfold rwK
  exact pk_ite _ (fun _ => s_rwL h _) (fun _ => s_rwL h _)
/-- what is left of the two after a word, a guard -/
def PST (W G : Int32) (vx vm : Mm) (a : Int32 × Mm) (b : Mm) : Prop := ((a.1 = 1 ∧ (INV a.2 b ∧ DR a.2 b) ∧ a.2 6 1 6 = W ∧ a.2 6 1 7 = G ∧ FPM vm b) ∨ (a.1 = 0 ∧ FLT a.2 b ∧ FPMf vm b)) ∧ FPX vx a.2
theorem rel_badR {γ δ : Type} {A : Option γ} {B : Option δ} {Q : γ → δ → Prop} {w : δ} (h : pk B (fun z => z = w)) (hq : rel A (some w) Q) : rel A B Q := by
  intro a b e1 e2
  have := h b e2
  exact hq a b e1 (by rw [this])
theorem here_letter {vx vm : Mm} (h : INV vx vm) : (hereF vx - 97).toInt = (hereF vx).toInt - 97 := by
  have e97 : (97 : Int32).toInt = 97 := by decide
  have := h.here
  have := sp_subx (hereF vx) 97 (by omega)
  omega
theorem st_let {δ : Type} {vx vm : Mm} {K : Int32 → Mm → Option δ} {Q : (Int32 × Mm) → δ → Prop} {n : Nat} {x : Int32} (hI : INV vx vm) (hx : ¬ 3 ≤ x) (hx2 : ¬ x = 2) (hok : ∀ vx' vm', INV vx' vm' → vx' = up3 (up3 vx 7 1 (Int32.toNatClampNeg (((vx 6 1 6) * 3) + x)) (hereF vx - 97)) 4 0 5 (vx 4 0 5 + 1) → FR sTK vm vm' → rel (g_X6_readWord_L40 n vx' (x + 1)) (K (hereF vx - 97) vm') Q) (hbad : ∀ vx' vm', FLT vx' vm' → FR [303, 304] vx vx' → FR [207, 208] vm vm' → rel (some (0, vx')) (K (0 - 97) vm') Q) : rel (g_X6_readWord_L40 (n + 1) vx x) (kb2 (g_X8_letterOf vm) K) Q := by
  have e0 : (0 : Int32).toInt = 0 := by decide
  have e1 : (1 : Int32).toInt = 1 := by decide
  have e25 : (25 : Int32).toInt = 25 := by decide
  have hl := here_letter hI
  have hh := hI.here
  have i2 := hI.2.1
  have i3 := hI.2.2.1
  have bad : ¬ (97 ≤ (hereF vx).toInt ∧ (hereF vx).toInt ≤ 122) → rel (kb2 (g_X6_faulty vx 1) (fun r19 v20 => some (r19, v20))) (kb2 (g_X8_letterOf vm) K) Q := by
    intro hb
    rw [kb2_id, q_faulty]
    unfold g_X8_letterOf
    rw [if_neg (fun q => hb (hI.letter.mp q)), kb2_assoc]
    exact tk_bad hI (flt_fr vx 1) (by decide) (flt_3 vx 1) (flt_4 vx 1) (fun vm' h1 h2 => hbad _ _ h1 (flt_fr vx 1) h2)
  show rel (b_X6_readWord_L40 (g_X6_readWord_L40 n) vx x) _ Q
  unfold b_X6_readWord_L40
  rw [if_neg hx]
  refine rel_bindL (p_here vx) (fun r er => ?_)
  rw [er]
  refine rel_iteL _ (fun c => bad (by have := i_lt c; omega)) (fun c1 => rel_iteL _ (fun c2 => ?_) (fun c => bad (by have := i_nle c; omega)))
  have j1 := i_nlt c1
  have j2 := i_le c2
  refine rel_grdL _ (fun _ => rel_letL (fun w1 ew1 => ?_))
  rw [if_neg hx2]
  refine rel_letL (fun w2 ew2 => ?_)
  have a5 : w1 4 0 5 = vx 4 0 5 := by rw [ew1]; exact up3_t (by decide)
  rw [a5, ew1] at ew2
  have hlt : 97 ≤ (hereF vx).toInt ∧ (hereF vx).toInt ≤ 122 := by omega
  have h1t := hI.letter.mpr hlt
  unfold g_X8_letterOf
  rw [if_pos h1t, kb2_assoc]
  have ex := sp_addx (vx 4 0 5) 1 (by omega)
  have b5 : w2 4 0 5 = vx 4 0 5 + 1 := by rw [ew2]; exact up3_s
  have FF : FR [305, 7] vx w2 := by rw [ew2]; exact ((FR.refl _ _).upa (by decide) (by decide)).upf (by decide)
  refine tk_ok hI FF (by decide) ?_ (by rw [b5]; omega) (by rw [b5]; omega) (fun vm' k1 k2 => ?_)
  · rcases hI.tok with ⟨-, q2, -, q⟩ | ⟨q, -⟩
    · rw [if_neg (by rw [← q2, h1t]; decide)] at q
      rw [b5, q]
    · unfold fig at q; omega
  · rw [hI.lval h1t]
    exact hok _ _ k1 ew2 k2
/-! the last row of a word -/
theorem st_end {vx vm ux um : Mm} {n : Nat} {k a b c : Int32} (hI : INV vx vm) (hD : DGd vx vm ∧ DLz vx vm) (hw : vx 6 1 6 = vm 37 0 3) (h0 : 0 ≤ (vx 6 1 6).toInt) (h5 : (vx 6 1 6).toInt ≤ 5) (hL : ∀ j : Nat, (j : Int) < 3 * (vx 6 1 6).toInt → vx 7 1 j = vm 37 0 (8 + j)) (ha : vx 7 1 (3 * Int32.toNatClampNeg (vx 6 1 6)) = a) (hb : vx 7 1 (3 * Int32.toNatClampNeg (vx 6 1 6) + 1) = b) (hc : vx 7 1 (3 * Int32.toNatClampNeg (vx 6 1 6) + 2) = c) (hk : k = (8 : Int32) + ((3 : Int32) * (vx 6 1 6))) (fx : FPX ux vx) (fm : FPM um vm) : rel (g_X6_readWord_L40 (n + 1) vx 3) (rwS k a b c vm) (PST (vx 6 1 6 + 1) (vx 6 1 7) ux um) := by
  have e1 : (1 : Int32).toInt = 1 := by decide
  show rel (b_X6_readWord_L40 (g_X6_readWord_L40 n) vx 3) _ _
  unfold b_X6_readWord_L40
  rw [if_pos (by decide)]
  refine rel_letL (fun w ew => ?_)
  have FW : FR [6] vx w := by rw [ew]; exact (FR.refl _ _).upa (by decide) (by decide)
  have IW : INV w vm := hI.fr FW (FR.refl [] vm) (by decide) (by decide)
  have fw : FPX ux w := fx.tr (by rw [ew]; exact FPX.up (Or.inr (by decide)))
  unfold rwS
  refine st_sign IW (by unfold fig; decide) (by decide) IW.stop (fun vx' vm' i1 f1 f2 => ?_) (fun vx' vm' i1 f1 f2 => ?_)
  · unfold rwF
    rw [q_well i1.2.2.2.2.2.1, bind1]
    have t3 := tcn (vx 6 1 6)
    obtain ⟨x1, x2, x3⟩ := ixm (x := vx 6 1 6) (k := Int32.toNatClampNeg (vx 6 1 6)) 8 8 (by decide) (by omega) (by omega) (by omega)
    rw [← hk] at x1 x2 x3
    rw [x1, x2, x3, tc_3]
    refine rel_grdR _ (fun _ => rel_letR (fun m1 em1 => rel_grdR _ (fun _ => rel_letR (fun m2 em2 => rel_grdR _ (fun _ => rel_letR (fun m3 em3 => rel_letR (fun m4 em4 => ?_)))))))
    have a6 : ∀ j, j ≠ 6 → vx' 6 1 j = vx 6 1 j := fun j hj => by rw [f1 6 1 j rfl, ew]; exact up3_j hj
    have a66 : vx' 6 1 6 = vx 6 1 6 + 1 := by rw [f1 6 1 6 rfl, ew]; exact up3_s
    have aw : ∀ t j, t ≠ 6 → t < 30 → t ≠ 4 → t ≠ 0 → t ≠ 15 → vx' t 1 j = vx t 1 j := fun t j h1 h2 h3 h4 h5 => by
      rw [f1 t 1 j (by unfold ckey; rw [if_neg h4, if_neg (by omega), if_neg h3, if_neg h5]; exact not_in (lo := 300) (hi := 310) (by decide) (by omega)), ew]; exact up3_t h1
    have mm : ∀ j, j ≠ 3 → ¬ (8 + 3 * Int32.toNatClampNeg (vx 6 1 6) ≤ j ∧ j ≤ 8 + 3 * Int32.toNatClampNeg (vx 6 1 6) + 2) → m4 37 0 j = vm 37 0 j := fun j h1 h2 => by
      rw [em4, up3_j h1, em3, up3_j (by omega), em2, up3_j (by omega), em1, up3_j (by omega)]; exact f2 37 0 j rfl
    have F3 : FR [37] vm' m4 := by rw [em4, em3, em2, em1]; exact ((((FR.refl _ _).upa (by decide) (by decide)).upa (by decide) (by decide)).upa (by decide) (by decide)).upa (by decide) (by decide)
    have ex := sp_addx (vx 6 1 6) 1 (by omega)
    refine rel_some ⟨Or.inl ⟨rfl, ⟨i1.fr (FR.refl [] _) F3 (by decide) (by decide), ⟨?_, ?_, ?_, ?_⟩, ?_, ?_⟩, a66, a6 7 (by decide), ?_⟩, ?_⟩
    · show vx' 6 1 6 = m4 37 0 3
      rw [a66, em4, up3_s, em3, up3_j (by omega), em2, up3_j (by omega), em1, up3_j (by omega), f2 37 0 3 rfl, hw]
    · show 0 ≤ (vx' 6 1 6).toInt
      rw [a66]; omega
    · show (vx' 6 1 6).toInt ≤ 6
      rw [a66]; omega
    · intro j hj
      have hj : (j : Int) < 3 * (vx' 6 1 6).toInt := hj
      rw [a66] at hj
      show vx' 7 1 j = m4 37 0 (8 + j)
      rw [aw 7 j (by decide) (by decide) (by decide) (by decide) (by decide)]
      by_cases q2 : j = 3 * Int32.toNatClampNeg (vx 6 1 6) + 2
      · rw [q2, hc, em4, up3_j (by omega), em3, show 8 + (3 * Int32.toNatClampNeg (vx 6 1 6) + 2) = 8 + 3 * Int32.toNatClampNeg (vx 6 1 6) + 2 from by omega, up3_s]
      · by_cases q1 : j = 3 * Int32.toNatClampNeg (vx 6 1 6) + 1
        · rw [q1, hb, em4, up3_j (by omega), em3, up3_j (by omega), em2, show 8 + (3 * Int32.toNatClampNeg (vx 6 1 6) + 1) = 8 + 3 * Int32.toNatClampNeg (vx 6 1 6) + 1 from by omega, up3_s]
        · by_cases q0 : j = 3 * Int32.toNatClampNeg (vx 6 1 6)
          · rw [q0, ha, em4, up3_j (by omega), em3, up3_j (by omega), em2, up3_j (by omega), em1, up3_s]
          · rw [mm (8 + j) (by omega) (by omega)]; exact hL j (by omega)
    · obtain ⟨g1, g2, g3, g4, g5, g6⟩ := hD.1
      refine ⟨?_, ?_, ?_, fun g hg => ?_, ?_, fun g hg => ?_⟩
      · show vx' 6 1 7 = m4 37 0 4
        rw [a6 7 (by decide), mm 4 (by omega) (by omega)]; exact g1
      · show 0 ≤ (vx' 6 1 7).toInt
        rw [a6 7 (by decide)]; exact g2
      · show (vx' 6 1 7).toInt ≤ 4
        rw [a6 7 (by decide)]; exact g3
      · have hg : (g : Int) < (vx' 6 1 7).toInt := hg
        rw [a6 7 (by decide)] at hg
        show vx' 8 1 g = m4 37 0 (26 + 3 * g) ∧ 1 ≤ (vx' 8 1 g).toInt ∧ (vx' 8 1 g).toInt ≤ 5 ∧ vx' 9 1 g = m4 37 0 (26 + 3 * g + 1) ∧ 0 ≤ (vx' 9 1 g).toInt ∧ (vx' 9 1 g).toInt ≤ 9
        rw [aw 8 g (by decide) (by decide) (by decide) (by decide) (by decide), aw 9 g (by decide) (by decide) (by decide) (by decide) (by decide), mm (26 + 3 * g) (by omega) (by omega), mm (26 + 3 * g + 1) (by omega) (by omega)]
        exact g4 g hg
      · show m4 37 0 6 = allg (vx' 6 1 7)
        rw [a6 7 (by decide), mm 6 (by omega) (by omega)]; exact g5
      · show m4 37 0 (26 + 3 * g + 2) = 0
        rw [mm (26 + 3 * g + 2) (by omega) (by omega)]; exact g6 g hg
    · obtain ⟨g1, g2, g3, g4, g5⟩ := hD.2
      refine ⟨?_, ?_, ?_, ?_, ?_⟩
      · show vx' 10 1 5 = m4 37 0 0
        rw [aw 10 5 (by decide) (by decide) (by decide) (by decide) (by decide), mm 0 (by omega) (by omega)]; exact g1
      · show vx' 6 1 4 = m4 37 0 1
        rw [a6 4 (by decide), mm 1 (by omega) (by omega)]; exact g2
      · show vx' 6 1 5 = m4 37 0 2
        rw [a6 5 (by decide), mm 2 (by omega) (by omega)]; exact g3
      · show m4 37 0 5 = 0
        rw [mm 5 (by omega) (by omega)]; exact g4
      · show m4 37 0 7 = 0
        rw [mm 7 (by omega) (by omega)]; exact g5
    · refine fm.tr ((FPM.of f2 (by decide)).tr ?_)
      rw [em4, em3, em2, em1]
      exact (((FPM.up (Or.inl rfl)).tr (FPM.up (Or.inl rfl))).tr (FPM.up (Or.inl rfl))).tr (FPM.up (Or.inl rfl))
    · exact fw.tr (FPX.of f1 (by decide))
  · show rel (some (0, vx')) (rwF k a b c vm') _
    rw [s_rwF i1.2.2.2]
    exact rel_some ⟨Or.inr ⟨rfl, i1, fm.flt f2⟩, fw.tr (FPX.of f1 (by decide))⟩
/-- a word's reading behind its w -/
theorem st_abc {vx vm ux um : Mm} (hI : INV vx vm) (hD : DR vx vm) (h5 : (vx 6 1 6).toInt ≤ 5) (fx : FPX ux vx) (fm : FPM um vm) : rel (g_X6_readWord_L40 2000 vx 0) (rwL ((8 : Int32) + ((3 : Int32) * (vx 6 1 6))) vm) (PST (vx 6 1 6 + 1) (vx 6 1 7) ux um) := by
  obtain ⟨⟨w1, w2, w3, w4⟩, hG, hZ⟩ := hD
  have e0 : (0 : Int32).toInt = 0 := by decide
  have e1 : (1 : Int32).toInt = 1 := by decide
  have e2 : (2 : Int32).toInt = 2 := by decide
  have e25 : (25 : Int32).toInt = 25 := by decide
  have t6 := tcn (vx 6 1 6)
  unfold rwL
  refine st_let (n := 1999) hI (by decide) (by decide) (fun va ma ia eva fa => ?_) (fun vx' vm' i1 f1 f2 => ?_)
  rotate_left
  · exact rel_badR (s_rwL2 i1.2.2.2 _ _) (rel_some ⟨Or.inr ⟨rfl, i1, fm.flt f2⟩, fx.tr (FPX.of f1 (by decide))⟩)
  rw [ix3 w2 w3 (by decide) (by decide)] at eva
  have fxa : FPX ux va := fx.tr (by rw [eva]; exact (FPX.up (Or.inr (by decide))).tr (FPX.up (Or.inl rfl)))
  have fma : FPM um ma := fm.tr (FPM.of fa (by decide))
  have va6 : ∀ j, va 6 1 j = vx 6 1 j := fun j => by rw [eva, up3_t (by decide), up3_t (by decide)]
  refine st_let (n := 1998) ia (by decide) (by decide) (fun vb mb ib evb fb => ?_) (fun vx' vm' i1 f1 f2 => ?_)
  rotate_left
  · exact rel_badR (s_rwM i1.2.2.2 _ _ _) (rel_some ⟨Or.inr ⟨rfl, i1, fma.flt f2⟩, fxa.tr (FPX.of f1 (by decide))⟩)
  rw [va6, ix3 w2 w3 (by decide) (by decide)] at evb
  have fxb : FPX ux vb := fxa.tr (by rw [evb]; exact (FPX.up (Or.inr (by decide))).tr (FPX.up (Or.inl rfl)))
  have fmb : FPM um mb := fma.tr (FPM.of fb (by decide))
  have vb6 : ∀ j, vb 6 1 j = vx 6 1 j := fun j => by rw [evb, up3_t (by decide), up3_t (by decide)]; exact va6 j
  obtain ⟨A, eA⟩ : ∃ A, A = hereF vx - 97 := ⟨_, rfl⟩
  obtain ⟨B, eB⟩ : ∃ B, B = hereF va - 97 := ⟨_, rfl⟩
  rw [← eA, ← eB]
  rw [← eA] at eva
  rw [← eB] at evb
  -- the third letter
  have hl := here_letter ib
  have hh := ib.here
  have i2 := ib.2.1
  have i3 := ib.2.2.1
  have i4 := ib.2.2.2.1
  have ex := sp_addx (vb 4 0 5) 1 (by omega)
  show rel (b_X6_readWord_L40 (g_X6_readWord_L40 1997) vb 2) _ _
  unfold b_X6_readWord_L40
  rw [if_neg (by decide)]
  have bad : ¬ (97 ≤ (hereF vb).toInt ∧ (hereF vb).toInt ≤ 122) → rel (kb2 (g_X6_faulty vb 1) (fun r19 v20 => some (r19, v20))) (rwM ((8 : Int32) + ((3 : Int32) * (vx 6 1 6))) A B mb) (PST (vx 6 1 6 + 1) (vx 6 1 7) ux um) := by
    intro hb
    rw [kb2_id, q_faulty]
    unfold rwM
    rw [q_well ib.2.2.2.2.2.1, bind1, if_neg (fun q => hb (ib.letter.mp q))]
    refine tk_bad ib (flt_fr vb 1) (by decide) (flt_3 vb 1) (flt_4 vb 1) (fun vm' h1 h2 => ?_)
    exact rel_badR (s_rwT h1.2.2.2 _ _ _) (rel_some ⟨Or.inr ⟨rfl, h1, fmb.flt h2⟩, fxb.tr (FPX.of (flt_fr vb 1) (by decide))⟩)
  refine rel_bindL (p_here vb) (fun r er => ?_)
  rw [er]
  refine rel_iteL _ (fun c => bad (by have := i_lt c; omega)) (fun c1 => rel_iteL _ (fun c2 => ?_) (fun c => bad (by have := i_nle c; omega)))
  have j1 := i_nlt c1
  have j2 := i_le c2
  refine rel_grdL _ (fun _ => rel_letL (fun w ew => ?_))
  rw [vb6, ix3 w2 w3 (by decide) (by decide)] at ew
  rw [if_pos rfl]
  have hlt : 97 ≤ (hereF vb).toInt ∧ (hereF vb).toInt ≤ 122 := by omega
  have h1t := ib.letter.mpr hlt
  obtain ⟨Cc, eC⟩ : ∃ C, C = hereF vb - 97 := ⟨_, rfl⟩
  rw [← eC] at ew
  have Fw : FR [7] vb w := by rw [ew]; exact (FR.refl _ _).upa (by decide) (by decide)
  have iw : INV w mb := ib.fr Fw (FR.refl [] _) (by decide) (by decide)
  have fxw : FPX ux w := fxb.tr (by rw [ew]; exact FPX.up (Or.inr (by decide)))
  have w6 : ∀ j, w 6 1 j = vx 6 1 j := fun j => by rw [ew, up3_t (by decide)]; exact vb6 j
  have tc0 : Int32.toNatClampNeg (0 : Int32) = 0 := by decide
  have tc1 : Int32.toNatClampNeg ((0 : Int32) + 1) = 1 := by decide
  have tc2 : Int32.toNatClampNeg (2 : Int32) = 2 := by decide
  rw [tc0] at eva
  rw [tc1] at evb
  rw [tc2] at ew
  have wa : w 7 1 (3 * Int32.toNatClampNeg (vx 6 1 6)) = A := by
    rw [ew, up3_j (by omega), evb, up3_t (by decide), up3_j (by omega), eva, up3_t (by decide)]; exact up3_s
  have wb : w 7 1 (3 * Int32.toNatClampNeg (vx 6 1 6) + 1) = B := by
    rw [ew, up3_j (by omega), evb, up3_t (by decide)]; exact up3_s
  have wc : w 7 1 (3 * Int32.toNatClampNeg (vx 6 1 6) + 2) = Cc := by
    rw [ew]; exact up3_s
  have wo : ∀ j, j < 3 * Int32.toNatClampNeg (vx 6 1 6) → w 7 1 j = vx 7 1 j := fun j hj => by
    rw [ew, up3_j (by omega), evb, up3_t (by decide), up3_j (by omega), eva, up3_t (by decide), up3_j (by omega)]
  have mbm : ∀ j, mb 37 0 j = vm 37 0 j := fun j => (fb 37 0 j rfl).trans (fa 37 0 j rfl)
  have mb3 : (mb 37 0 3) = vx 6 1 6 := by rw [mbm]; exact w1.symm
  -- told before
  have same : ∀ o : Nat, (o : Int) < (vx 6 1 6).toInt → (dst (w 7 1) (Int32.toNatClampNeg (vx 6 1 6)) o = 0 ↔ toldM mb A B Cc o) := by
    intro o ho
    rw [dst_zero, wa, wb, wc, wo (3 * o) (by omega), wo (3 * o + 1) (by omega), wo (3 * o + 2) (by omega), w4 (3 * o) (by omega), w4 (3 * o + 1) (by omega), w4 (3 * o + 2) (by omega)]
    unfold toldM
    rw [mbm, mbm, mbm]
    exact ⟨fun q => ⟨q.1.symm, q.2.1.symm, q.2.2.symm⟩, fun q => ⟨q.1.symm, q.2.1.symm, q.2.2.symm⟩⟩
  unfold rwM
  rw [q_well ib.2.2.2.2.2.1, bind1, if_pos h1t]
  unfold rwT
  have ev : (mb 30 0 12) - 97 = Cc := by rw [ib.lval h1t, eC]
  rw [ev, w6]
  refine rel_bindL (p_wasTold w (vx 6 1 6) ⟨w2, h5⟩) (fun r27 h27 => ?_)
  refine rel_bindR (p_isTold mb A B Cc (by rw [mb3]; exact w3)) (fun r17 h17 => ?_)
  rw [mb3] at h17
  have w45 : w 4 0 5 = vb 4 0 5 := by rw [ew]; exact up3_t (by decide)
  rcases h27 with ⟨p1, o, p2, p3⟩ | ⟨p1, p2⟩
  · -- told: a fault on both sides
    rw [p1, if_neg (by decide)]
    have n17 : ¬ r17 = 0 := by
      rcases h17 with ⟨q1, -⟩ | ⟨-, q2⟩
      · rw [q1]; decide
      · exact absurd ((same o p2).mp p3) (q2 o p2)
    rw [if_neg n17, kb2_id, q_faulty]
    refine tk_bad iw (flt_fr w 2) (by decide) (flt_3 w 2) (flt_4 w 2) (fun vm' h1 h2 => ?_)
    rw [s_rwS h1.2.2.2]
    exact rel_some ⟨Or.inr ⟨rfl, h1, fmb.flt h2⟩, fxw.tr (FPX.of (flt_fr w 2) (by decide))⟩
  · rw [p1, if_pos rfl]
    have z17 : r17 = 0 := by
      rcases h17 with ⟨-, o, q2, q3⟩ | ⟨q1, -⟩
      · exact absurd ((same o q2).mpr q3) (p2 o q2)
      · exact q1
    rw [if_pos z17]
    refine rel_letL (fun w' ew' => ?_)
    have b5 : w' 4 0 5 = vb 4 0 5 + 1 := by rw [ew', up3_s, w45]
    have FF : FR [305] w w' := by rw [ew']; exact (FR.refl _ _).upf (by decide)
    have w42 : w 4 0 2 = vb 4 0 2 := by rw [ew]; exact up3_t (by decide)
    refine tk_ok iw FF (by decide) ?_ (by rw [b5]; omega) (by rw [b5, w42]; omega) (fun vm' k1 k2 => ?_)
    · rcases ib.tok with ⟨-, q2, -, q⟩ | ⟨q, -⟩
      · rw [if_neg (by rw [← q2, h1t]; decide)] at q
        rw [b5, q]
      · unfold fig at q; omega
    · rw [ev]
      have w'6 : ∀ j, w' 6 1 j = vx 6 1 j := fun j => by rw [FF 6 1 j rfl]; exact w6 j
      have w'7 : ∀ j, w' 7 1 j = w 7 1 j := fun j => FF 7 1 j rfl
      have m'm : ∀ j, vm' 37 0 j = vm 37 0 j := fun j => (k2 37 0 j rfl).trans (mbm j)
      have FX : FR [7, 305] vx w' := by
        have f1 : FR [7, 305] vx va := by rw [eva]; exact ((FR.refl _ _).upa (by decide) (by decide)).upf (by decide)
        have f2 : FR [7, 305] vx vb := by rw [evb]; exact (f1.upa (by decide) (by decide)).upf (by decide)
        exact (f2.tr Fw (by decide)).tr FF (by decide)
      have FM : FR sTK vm vm' := (fa.tr fb (by decide)).tr k2 (by decide)
      rw [← w'6 6, ← w'6 7]
      refine st_end (n := 1996) k1 ⟨hG.fr FX FM (by decide) (by decide), hZ.fr FX FM (by decide) (by decide)⟩ ?_ ?_ ?_ ?_ ?_ ?_ ?_ ?_ (fxw.tr (FPX.of FF (by decide))) (fmb.tr (FPM.of k2 (by decide)))
      · rw [w'6, m'm]; exact w1
      · rw [w'6]; exact w2
      · rw [w'6]; exact h5
      · intro j hj
        rw [w'6] at hj
        rw [w'7, m'm, wo j (by omega)]; exact w4 j hj
      · rw [w'6, w'7]; exact wa
      · rw [w'6, w'7]; exact wb
      · rw [w'6, w'7]; exact wc
      · rfl
