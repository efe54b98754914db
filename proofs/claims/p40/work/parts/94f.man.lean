/-! how many of a set -/
def pc (a : Nat) : Nat := (if a.testBit 0 then 1 else 0) + (if a.testBit 1 then 1 else 0) + (if a.testBit 2 then 1 else 0) + (if a.testBit 3 then 1 else 0) + (if a.testBit 4 then 1 else 0) + (if a.testBit 5 then 1 else 0)
theorem bc_v (v : Mm) (x : Int32) : g_J6_bitCount_0f7a4 v x = g_J6_bitCount_0f7a4 vX0 x := rfl
theorem t_bc : ∀ a, a < 64 → g_J6_bitCount_0f7a4 vX0 (nI a) = some (nI (pc a)) := by decide +kernel
theorem q_bc (v : Mm) {a : Nat} (h : a < 64) : g_J6_bitCount_0f7a4 v (nI a) = some (nI (pc a)) := (bc_v v _).trans (t_bc a h)
theorem ones_v (v w : Mm) (x : Int32) : ∀ (n : Nat) (y z : Int32), g_X8_ones_L4 v x n y z = g_X8_ones_L4 w x n y z := by
  intro n
  induction n with
  | zero => intro y z; rfl
  | succ n ih =>
    intro y z
    show b_X8_ones_L4 (g_X8_ones_L4 v x n) v x y z = b_X8_ones_L4 (g_X8_ones_L4 w x n) w x y z
    unfold b_X8_ones_L4
    simp only [ih]
theorem t_ones : ∀ a, a < 64 → g_X8_ones_L4 vX0 (nI a) 9 0 0 = some (nI (pc a)) := by decide +kernel
theorem ones_more (v : Mm) (x : Int32) : ∀ (n m : Nat) (y z r : Int32), g_X8_ones_L4 v x n y z = some r → g_X8_ones_L4 v x (n + m) y z = some r := by
  intro n
  induction n with
  | zero => intro m y z r e; cases e
  | succ n ih =>
    intro m y z r e
    rw [show n + 1 + m = (n + m) + 1 by omega]
    show b_X8_ones_L4 (g_X8_ones_L4 v x (n + m)) v x y z = some r
    have e : b_X8_ones_L4 (g_X8_ones_L4 v x n) v x y z = some r := e
    unfold b_X8_ones_L4 at e ⊢
    by_cases c : 8 ≤ z
    · rw [if_pos c] at e ⊢; exact e
    · rw [if_neg c, Option.bind_some] at e ⊢
      exact ih m _ _ r e
theorem q_ones (v : Mm) {a : Nat} (h : a < 64) : g_X8_ones v (nI a) = some (nI (pc a)) := by
  unfold g_X8_ones
  rw [ones_v v vX0]
  exact ones_more vX0 (nI a) 9 1991 0 0 _ (t_ones a h)
theorem pc_le : ∀ a, pc a ≤ 6 := by
  intro a
  unfold pc
  repeat' split
  all_goals omega
/-! secrets by which one is taken now -/
def SCB (v : Mm) (w : Nat) (hour : Int32) : Nat → Bool := fun s => decide (cat (v 7 0) (v 8 0) (v 6 0 7) (v 10 0 6) w hour (v 10 0 4) s = 1)
theorem x_catching {vx vm : Mm} (hR : RG5 vx) (h : RSt vx 0 vm 36 0) {w hour : Int32} (hw : 0 ≤ w.toInt ∧ w.toInt < (vx 6 0 6).toInt) (hh : 0 ≤ hour.toInt ∧ hour.toInt < 6) : pk (g_X3_secretsCatching vx 0 w hour) (fun r => r = nI (bsN (SCB vx (Int32.toNatClampNeg w) hour) (Int32.toNatClampNeg (vx 6 0 6)))) := by
  have e1 : (1 : Int32).toInt = 1 := by decide
  have cw := tcn (vx 6 0 6)
  obtain ⟨w6, g7, n9, -, -⟩ := id hR
  have s2 := sp_addx (vx 10 0 4) hour (by omega)
  rw [← orb_bs _ _ (by omega)]
  have loop : ∀ (n : Nat) (y x : Int32) (k : Nat), x.toInt = (k : Int) → k ≤ Int32.toNatClampNeg (vx 6 0 6) → y = orb (fun k => if SCB vx (Int32.toNatClampNeg w) hour k = true then 1 else 0) k → pk (g_X3_secretsCatching_L5 vx 0 w hour n y x) (fun r => r = orb (fun k => if SCB vx (Int32.toNatClampNeg w) hour k = true then 1 else 0) (Int32.toNatClampNeg (vx 6 0 6))) := by
    intro n
    induction n with
    | zero => intro y x k _ _ _ b e; cases e
    | succ n ih =>
      intro y x k hx hk hy
      show pk (b_X3_secretsCatching_L5 (g_X3_secretsCatching_L5 vx 0 w hour n) vx 0 w hour y x) _
      unfold b_X3_secretsCatching_L5
      refine pk_ite _ (fun c => ?_) (fun c => ?_)
      · have := i_le c
        obtain rfl : k = Int32.toNatClampNeg (vx 6 0 6) := by omega
        exact pk_some hy
      · have := i_nle c
        have ex := sp_addx x 1 (by omega)
        have hx' := nI_ofk hx
        have hc : Int32.toNatClampNeg x = k := by rw [tcn]; omega
        refine pk_bind (p_catchesIf vx x w hour (vx 10 0 4) g7.1 (h.kds g7.2).1 (by omega) (by omega) (by omega)) (fun r er => ?_)
        rw [hc] at er
        have h01 : r = 0 ∨ r = 1 := by rw [er]; exact cat_01 _ _ _ _ _ _ _ _
        rw [q_bit h01, Option.bind_some]
        refine ih _ (x + 1) (k + 1) (by omega) (by omega) ?_
        show _ = orb _ k ||| ((if SCB vx (Int32.toNatClampNeg w) hour k = true then (1 : Int32) else 0) <<< (nI k &&& 31))
        rw [← hx', hy]
        unfold SCB
        rw [← er]
        rcases h01 with q | q
        · rw [q, if_neg (by decide)]
        · rw [q, if_pos (by decide)]
  unfold g_X3_secretsCatching
  exact loop 2000 0 0 0 (by decide) (by omega) rfl
theorem m_takenOf {vx vm : Mm} (hR : RG5 vx) (h : GB vx vm) {a : Nat} (ha : a < 2 ^ Int32.toNatClampNeg (vx 6 0 6)) {w hour : Int32} (hw : 0 ≤ w.toInt ∧ w.toInt < (vx 6 0 6).toInt) (hh : 0 ≤ hour.toInt ∧ hour.toInt < 6) : pk (g_X8_takenOf vm (nI a) w hour) (fun r => r = nI (a &&& bsN (SCB vx (Int32.toNatClampNeg w) hour) (Int32.toNatClampNeg (vx 6 0 6)))) := by
  have e1 : (1 : Int32).toInt = 1 := by decide
  have ew : vx 6 0 6 = vm 36 0 3 := h.1.2.2.1
  have e4 : vx 6 0 7 = vm 36 0 4 := h.1.2.2.2.1
  have e5 : vx 10 0 4 = vm 36 0 5 := h.2.1.2.1
  have e6 : vx 10 0 6 = vm 36 0 6 := h.2.1.2.2.1
  have cw := tcn (vx 6 0 6)
  have cww := tcn w
  obtain ⟨w6, g7, n9, -, -⟩ := id hR
  have s2 := sp_addx (vx 10 0 4) hour (by omega)
  have ha64 : a < 64 := Nat.lt_of_lt_of_le ha (show 2 ^ Int32.toNatClampNeg (vx 6 0 6) ≤ 2 ^ 6 from Nat.pow_le_pow_right (by omega) (by omega))
  have eq : a &&& bsN (SCB vx (Int32.toNatClampNeg w) hour) (Int32.toNatClampNeg (vx 6 0 6)) = bsN (fun s => a.testBit s && SCB vx (Int32.toNatClampNeg w) hour s) (Int32.toNatClampNeg (vx 6 0 6)) := by
    refine Nat.eq_of_testBit_eq (fun i => ?_)
    rw [Nat.testBit_and, bs_bit, bs_bit]
    cases a.testBit i <;> cases decide (i < Int32.toNatClampNeg (vx 6 0 6)) <;> rfl
  rw [eq, ← orb_bs _ _ (by omega)]
  have loop : ∀ (n : Nat) (y x : Int32) (k : Nat), x.toInt = (k : Int) → k ≤ Int32.toNatClampNeg (vx 6 0 6) → y = orb (fun k => if (a.testBit k && SCB vx (Int32.toNatClampNeg w) hour k) = true then 1 else 0) k → pk (g_X8_takenOf_L6 vm (nI a) w hour n y x) (fun r => r = orb (fun k => if (a.testBit k && SCB vx (Int32.toNatClampNeg w) hour k) = true then 1 else 0) (Int32.toNatClampNeg (vx 6 0 6))) := by
    intro n
    induction n with
    | zero => intro y x k _ _ _ b e; cases e
    | succ n ih =>
      intro y x k hx hk hy
      show pk (b_X8_takenOf_L6 (g_X8_takenOf_L6 vm (nI a) w hour n) vm (nI a) w hour y x) _
      unfold b_X8_takenOf_L6
      rw [tc_3, tc_5, tc_6, ← ew, ← e5]
      refine pk_ite _ (fun c => ?_) (fun c => ?_)
      · have := i_le c
        obtain rfl : k = Int32.toNatClampNeg (vx 6 0 6) := by omega
        exact pk_some hy
      · have := i_nle c
        have ex := sp_addx x 1 (by omega)
        have hx' := nI_ofk hx
        have hc : Int32.toNatClampNeg x = k := by rw [tcn]; omega
        have no : (a.testBit k && SCB vx (Int32.toNatClampNeg w) hour k) = false → pk (g_X8_takenOf_L6 vm (nI a) w hour n (y ||| 0) (x + 1)) (fun r => r = orb (fun k => if (a.testBit k && SCB vx (Int32.toNatClampNeg w) hour k) = true then 1 else 0) (Int32.toNatClampNeg (vx 6 0 6))) := fun q => ih _ (x + 1) (k + 1) (by omega) (by omega) (by
          show _ = orb _ k ||| ((if (a.testBit k && SCB vx (Int32.toNatClampNeg w) hour k) = true then (1 : Int32) else 0) <<< (nI k &&& 31))
          rw [if_neg (by rw [q]; decide), sh0, hy])
        rw [q_has, hx', t_has a ha64 k (by omega), Option.bind_some, ← hx']
        by_cases hb : a.testBit k = true
        · rw [if_pos hb, if_neg (by decide)]
          refine pk_bind (p_isTaken vm w hour (vx 10 0 4) (vm 36 0 6) x (by omega) (by omega) (by rw [← e4]; exact g7) (by omega)) (fun r er => ?_)
          rw [hc, cat_eq h.1 w6.2 g7 (by omega) (by omega) (by omega), ← e6] at er
          have h01 : r = 0 ∨ r = 1 := by rw [er]; exact cat_01 _ _ _ _ _ _ _ _
          refine pk_ite _ (fun c2 => no ?_) (fun c2 => pk_let (fun x10 ex10 => ih _ (x + 1) (k + 1) (by omega) (by omega) ?_))
          · unfold SCB
            rw [← er, c2, hb]; rfl
          · show _ = orb _ k ||| ((if (a.testBit k && SCB vx (Int32.toNatClampNeg w) hour k) = true then (1 : Int32) else 0) <<< (nI k &&& 31))
            have hS1 : SCB vx (Int32.toNatClampNeg w) hour k = true := by
              unfold SCB
              rw [← er, h01.resolve_left c2]; rfl
            rw [if_pos (by rw [hb, hS1]; rfl), ex10, ← hx', hy]
        · rw [if_neg hb, if_pos rfl]
          refine no ?_
          cases z : a.testBit k with
          | false => rfl
          | true => exact absurd z hb
  unfold g_X8_takenOf
  exact loop 2000 0 0 0 (by decide) (by omega) rfl
/-- the set that agrees, as bits -/
def AGN (v : Mm) : Nat := bsN (fun s => allB (OKB v s) (Int32.toNatClampNeg (v 10 0 7))) (Int32.toNatClampNeg (v 6 0 6))
theorem AGS_bs (v : Mm) (h : (v 6 0 6).toInt ≤ 6) : AGS v = nI (AGN v) := by
  have c := tcn (v 6 0 6)
  unfold AGS AGN
  rw [← orb_bs _ _ (by omega)]
  rfl
