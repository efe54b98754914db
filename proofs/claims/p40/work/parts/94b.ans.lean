/-! ANSWERS of one look -/
theorem ix38 {a x : Int32} (h1 : 0 ≤ a.toInt) (h2 : a.toInt ≤ 9) (h3 : 0 ≤ x.toInt) (h4 : x.toInt ≤ 20) : Int32.toNatClampNeg (((38 : Int32) + ((3 : Int32) * a)) + x) = 38 + 3 * Int32.toNatClampNeg a + Int32.toNatClampNeg x := by
  have e8 : (38 : Int32).toInt = 38 := by decide
  have e1 := sp_cmulx 3 a 3 (by decide) (by omega)
  have e2 := sp_addx 38 ((3 : Int32) * a) (by omega)
  have e3 := sp_addx ((38 : Int32) + (3 : Int32) * a) x (by omega)
  rw [tcn, tcn, tcn]
  omega
theorem a_letter {vx vm : Mm} (hJ : J2 vx vm) (a1 a2 : Int32) : rel (g_X7_letter vx a1 a2) (g_X8_letter vm a1 a2) (fun x y => x = y) := by
  have e0 : (0 : Int32).toInt = 0 := by decide
  have e2 : (2 : Int32).toInt = 2 := by decide
  have e3 : (3 : Int32).toInt = 3 := by decide
  have hS := hJ.2.1.1
  have hw : (0 : Int) ≤ (vx 6 0 6).toInt ∧ (vx 6 0 6).toInt ≤ (6 : Int) := hJ.1.1 6 0 6
  have ew : vx 6 0 6 = vm 36 0 3 := hS.2.2.1
  unfold g_X7_letter g_X8_letter
  rw [bx_word, bm_word vm (by rw [← ew]; exact hw.1), ← ew, rng4, b_in]
  refine rel_ite Iff.rfl (fun c1 => ?_) (fun _ => rel_some rfl)
  refine rel_ite (by omega) (fun c2 => ?_) (fun _ => rel_some rfl)
  refine rel_grdL _ (fun _ => rel_grdR _ (fun _ => rel_some ?_))
  have t1 := tcn a1
  have t2 := tcn a2
  rw [ix3 (by omega) (by omega) (by omega) (by omega), ix8 (by omega) (by omega) (by omega) (by omega)]
  have := hS.2.2.2.2.1 (3 * Int32.toNatClampNeg a1 + Int32.toNatClampNeg a2) (by omega) (by omega)
  rw [Nat.zero_add] at this
  exact this
theorem a_like {vx vm : Mm} (hJ : J2 vx vm) (a1 a2 a3 : Int32) : rel (g_X7_like vx a1 a2 a3) (g_X8_like vm a1 a2 a3) (fun x y => x = y) := by
  have e0 : (0 : Int32).toInt = 0 := by decide
  have e1 : (1 : Int32).toInt = 1 := by decide
  have hS := hJ.2.1.1
  have hw : (0 : Int) ≤ (vx 6 0 6).toInt ∧ (vx 6 0 6).toInt ≤ (6 : Int) := hJ.1.1 6 0 6
  have ew : vx 6 0 6 = vm 36 0 3 := hS.2.2.1
  unfold g_X7_like g_X8_like
  rw [bx_word, bx_word, bm_word vm (by rw [← ew]; exact hw.1), bm_word vm (by rw [← ew]; exact hw.1), ← ew, rng3, b_in]
  refine rel_ite Iff.rfl (fun c1 => ?_) (fun _ => rel_some rfl)
  refine rel_ite Iff.rfl (fun c2 => ?_) (fun _ => rel_some rfl)
  refine rel_ite Iff.rfl (fun _ => ?_) (fun _ => rel_some rfl)
  have t1 := tcn a1
  have t2 := tcn a2
  have h3 := hS.let3 hw.2 (a := Int32.toNatClampNeg a1) (b := Int32.toNatClampNeg a2) (by omega) (by omega)
  refine rel_ite Iff.rfl (fun _ => ?_) (fun _ => ?_)
  · refine rel_bindL (p_dist vx 0 a1 a2 (by omega) (by omega)) (fun r er => rel_bindR (p_distM vm a1 a2 (by omega) (by omega)) (fun q eq => rel_some ?_))
    rw [er, eq, dst_congr h3]
  · refine rel_bindL (p_lips vx 0 a1 a2 (by omega) (by omega)) (fun r er => rel_bindR (p_lipsM vm a1 a2 (by omega) (by omega)) (fun q eq => rel_some ?_))
    rw [er, eq, lps_congr h3]
/-! bits of a row of answers -/
def orb (p : Nat → Int32) : Nat → Int32
  | 0 => 0
  | n + 1 => orb p n ||| (p n <<< (nI n &&& 31))
theorem orb_congr {p q : Nat → Int32} : ∀ n, (∀ k, k < n → p k = q k) → orb p n = orb q n := by
  intro n
  induction n with
  | zero => intro _; rfl
  | succ n ih => intro h; show orb p n ||| _ = orb q n ||| _; rw [ih (fun k hk => h k (by omega)), h n (by omega)]
theorem sh0 (s : Int32) : (0 : Int32) <<< s = 0 := by
  apply Int32.toBitVec_inj.mp
  rw [Int32.toBitVec_shiftLeft]
  simp
theorem or0 (x : Int32) : x ||| 0 = x := by
  apply Int32.toBitVec_inj.mp
  rw [Int32.toBitVec_or]
  simp
theorem nI_ofk {x : Int32} {k : Nat} (h : x.toInt = (k : Int)) : x = nI k := by
  have := i_bd x
  exact Int32.toInt_inj.mp (by rw [nI_toInt (by omega)]; exact h)
theorem p_hoursX (v : Mm) (a1 : Int32) (hG : 0 < (v 6 0 7).toInt) : pk (g_X2_hoursOf v 0 a1) (fun r => r = orb (fun k => if grd (v 10 0 4 + nI k) (v 6 0 7) = a1 then 1 else 0) 6) := by
  have e1 : (1 : Int32).toInt = 1 := by decide
  have e6 : (6 : Int32).toInt = 6 := by decide
  have loop : ∀ (n : Nat) (y x : Int32) (k : Nat), x.toInt = (k : Int) → k ≤ 6 → y = orb (fun k => if grd (v 10 0 4 + nI k) (v 6 0 7) = a1 then 1 else 0) k → pk (g_X2_hoursOf_L4 v 0 a1 n y x) (fun r => r = orb (fun k => if grd (v 10 0 4 + nI k) (v 6 0 7) = a1 then 1 else 0) 6) := by
    intro n
    induction n with
    | zero => intro y x k _ _ _ b e; cases e
    | succ n ih =>
      intro y x k hx hk hy
      show pk (b_X2_hoursOf_L4 (g_X2_hoursOf_L4 v 0 a1 n) v 0 a1 y x) _
      unfold b_X2_hoursOf_L4 g_X2_guardOn
      refine pk_ite _ (fun c => ?_) (fun c => ?_)
      · have := i_le c
        obtain rfl : k = 6 := by omega
        exact pk_some hy
      · have := i_nle c
        have ex := sp_addx x 1 (by omega)
        rw [q_rest v _ _ hG]
        refine pk_let (fun r er => ?_)
        have er : r = grd (v 10 0 4 + x) (v 6 0 7) := er
        rw [q_bit (Or.inr rfl), q_bit (Or.inl rfl), Option.bind_some, Option.bind_some]
        have hx' := nI_ofk hx
        refine pk_ite _ (fun c2 => ?_) (fun c2 => ?_)
        · refine ih _ (x + 1) (k + 1) (by omega) (by omega) ?_
          show _ = orb _ k ||| ((if grd (v 10 0 4 + nI k) (v 6 0 7) = a1 then (1 : Int32) else 0) <<< (nI k &&& 31))
          rw [← hx', ← er, if_pos c2, hy]
        · refine ih _ (x + 1) (k + 1) (by omega) (by omega) ?_
          show _ = orb _ k ||| ((if grd (v 10 0 4 + nI k) (v 6 0 7) = a1 then (1 : Int32) else 0) <<< (nI k &&& 31))
          rw [← hx', ← er, if_neg c2, hy]
  unfold g_X2_hoursOf
  exact loop 2000 0 0 0 (by decide) (by omega) rfl
theorem p_hoursM (v : Mm) (a1 : Int32) : pk (g_X8_hoursOf v a1) (fun r => r = orb (fun k => if grd (v 36 0 5 + nI k) (v 36 0 4) = a1 then 1 else 0) 6) := by
  have e1 : (1 : Int32).toInt = 1 := by decide
  have e6 : (6 : Int32).toInt = 6 := by decide
  have loop : ∀ (n : Nat) (y x : Int32) (k : Nat), x.toInt = (k : Int) → k ≤ 6 → y = orb (fun k => if grd (v 36 0 5 + nI k) (v 36 0 4) = a1 then 1 else 0) k → pk (g_X8_hoursOf_L4 v a1 n y x) (fun r => r = orb (fun k => if grd (v 36 0 5 + nI k) (v 36 0 4) = a1 then 1 else 0) 6) := by
    intro n
    induction n with
    | zero => intro y x k _ _ _ b e; cases e
    | succ n ih =>
      intro y x k hx hk hy
      show pk (b_X8_hoursOf_L4 (g_X8_hoursOf_L4 v a1 n) v a1 y x) _
      unfold b_X8_hoursOf_L4 g_X8_guardOn
      rw [tc_4, tc_5]
      refine pk_ite _ (fun c => ?_) (fun c => ?_)
      · have := i_le c
        obtain rfl : k = 6 := by omega
        exact pk_some hy
      · have := i_nle c
        have ex := sp_addx x 1 (by omega)
        by_cases q : v 36 0 4 = 0
        · rw [if_pos q]; intro b e; cases e
        rw [if_neg q]
        refine pk_let (fun r er => ?_)
        have er : r = grd (v 36 0 5 + x) (v 36 0 4) := er
        have hx' := nI_ofk hx
        refine pk_ite _ (fun c2 => ?_) (fun c2 => ?_)
        · refine pk_let (fun x6 ex6 => ih _ (x + 1) (k + 1) (by omega) (by omega) ?_)
          show _ = orb _ k ||| ((if grd (v 36 0 5 + nI k) (v 36 0 4) = a1 then (1 : Int32) else 0) <<< (nI k &&& 31))
          rw [← hx', ← er, if_pos c2, ex6, hy]
        · refine ih _ (x + 1) (k + 1) (by omega) (by omega) ?_
          show _ = orb _ k ||| ((if grd (v 36 0 5 + nI k) (v 36 0 4) = a1 then (1 : Int32) else 0) <<< (nI k &&& 31))
          rw [← hx', ← er, if_neg c2, sh0, hy]
  unfold g_X8_hoursOf
  exact loop 2000 0 0 0 (by decide) (by omega) rfl
theorem a_guard {vx vm : Mm} (hJ : J2 vx vm) (a1 a2 : Int32) : rel (g_X7_guard vx a1 a2) (g_X8_guard vm a1 a2) (fun x y => x = y) := by
  have hS := hJ.2.1.1
  have hM := hJ.2.1.2.1
  have hg : (0 : Int) ≤ (vx 6 0 7).toInt ∧ (vx 6 0 7).toInt ≤ (4 : Int) := hJ.1.1 6 0 7
  have eg : vx 6 0 7 = vm 36 0 4 := hS.2.2.2.1
  have en : vx 10 0 4 = vm 36 0 5 := hM.2.1
  have et : vx 10 0 6 = vm 36 0 6 := hM.2.2.1
  unfold g_X7_guard g_X8_guard
  rw [bx_guard, bm_guard vm (by rw [← eg]; exact hg.1), ← eg, tc_6, ← et, q_there]
  refine rel_ite Iff.rfl (fun c1 => ?_) (fun _ => rel_some rfl)
  have t1 := tcn a1
  obtain ⟨x1, x2, x3⟩ := ixm (x := a1) (k := Int32.toNatClampNeg a1) 26 26 (by decide) (by omega) (by omega) (by omega)
  rw [x2, x3]
  refine rel_ite Iff.rfl (fun _ => rel_grdL _ (fun _ => rel_grdR _ (fun _ => rel_some ?_))) (fun _ => ?_)
  · have := (hS.2.2.2.2.2 (Int32.toNatClampNeg a1) (by omega) (by omega)).2.2.2.1
    rw [Nat.zero_add] at this
    exact this
  refine rel_ite Iff.rfl (fun _ => rel_grdL _ (fun _ => rel_grdR _ (fun _ => rel_some ?_))) (fun _ => ?_)
  · have := hM.2.2.2.2.1 (Int32.toNatClampNeg a1) (by omega)
    rw [Nat.zero_add, Nat.zero_add, ← eg, if_pos (by omega)] at this
    exact this
  refine rel_ite Iff.rfl (fun _ => ?_) (fun _ => ?_)
  · rw [Option.bind_some, q_bit (t_bit _), Option.bind_some]
    exact rel_some rfl
  refine rel_ite Iff.rfl (fun _ => ?_) (fun _ => rel_some rfl)
  refine rel_bindL (p_hoursX vx a1 (by omega)) (fun r er => rel_bindR (p_hoursM vm a1) (fun q eq => rel_some ?_))
  rw [er, eq, eg, en]
theorem a_tried {vx vm : Mm} (hJ : J2 vx vm) (a1 a2 : Int32) : rel (g_X7_tried vx a1 a2) (g_X8_tried vm a1 a2) (fun x y => x = y) := by
  have e0 : (0 : Int32).toInt = 0 := by decide
  have e1 : (1 : Int32).toInt = 1 := by decide
  have e2 : (2 : Int32).toInt = 2 := by decide
  have hM := hJ.2.1.2.1
  have ht : (0 : Int) ≤ (vx 10 0 7).toInt ∧ (vx 10 0 7).toInt ≤ (9 : Int) := hJ.1.1 10 0 7
  have e7 : vx 10 0 7 = vm 36 0 7 := hM.2.2.2.1
  unfold g_X7_tried g_X8_tried
  rw [rng4, tc_7, ← e7, b_in, b_in]
  have s := sp_subx (vx 10 0 7) 1 (by omega)
  refine rel_ite (by omega) (fun c1 => ?_) (fun _ => rel_some rfl)
  have t1 := tcn a1
  have hk := hM.2.2.2.2.2.1 (Int32.toNatClampNeg a1) (by omega) (by rw [Nat.zero_add, ← e7]; omega)
  simp only [Nat.zero_add] at hk
  obtain ⟨k1, k2, k3, k4, k5⟩ := hk
  by_cases q0 : a2 = 0
  · subst q0
    rw [if_pos rfl, if_pos (show (0 : Int32).toInt ≤ (0 : Int32).toInt ∧ (0 : Int32).toInt ≤ (2 : Int32).toInt from by decide)]
    refine rel_grdL _ (fun _ => rel_grdR _ (fun _ => rel_letR (fun x ex => ?_)))
    rw [if_neg (by decide)]
    refine rel_some ?_
    rw [ex, ix38 (by omega) (by omega) (by decide) (by decide)]
    exact k1
  rw [if_neg q0]
  by_cases q1 : a2 = 1
  · subst q1
    rw [if_pos rfl, if_pos (show (0 : Int32).toInt ≤ (1 : Int32).toInt ∧ (1 : Int32).toInt ≤ (2 : Int32).toInt from by decide)]
    refine rel_grdL _ (fun _ => rel_grdR _ (fun _ => rel_letR (fun x ex => ?_)))
    rw [if_pos rfl]
    rw [ix38 (by omega) (by omega) (by decide) (by decide)] at ex
    have ex : x = vm 36 0 (38 + 3 * Int32.toNatClampNeg a1 + 1) := ex
    rw [← ex] at k2
    rcases k2 with ⟨p1, p2⟩ | ⟨p1, p2, p3⟩
    · rw [if_pos p1]; exact rel_some p2
    · rw [if_neg (nz (by omega))]; exact rel_some p3
  rw [if_neg q1]
  by_cases q2 : a2 = 2
  · subst q2
    rw [if_pos rfl, if_pos (show (0 : Int32).toInt ≤ (2 : Int32).toInt ∧ (2 : Int32).toInt ≤ (2 : Int32).toInt from by decide)]
    refine rel_grdL _ (fun _ => rel_grdR _ (fun _ => rel_letR (fun x ex => ?_)))
    rw [if_neg (by decide)]
    refine rel_some ?_
    rw [ex, ix38 (by omega) (by omega) (by decide) (by decide)]
    exact k3
  rw [if_neg q2, if_neg]
  · exact rel_some rfl
  · intro p
    have n0 := i_ne q0
    have n1 := i_ne q1
    have n2 := i_ne q2
    omega
theorem a_secret {vx vm : Mm} (hJ : J2 vx vm) (a1 : Int32) : rel (g_X7_secret vx a1) (g_X8_secret vm a1) (fun x y => x = y) := by
  have hS := hJ.2.1.1
  have hM := hJ.2.1.2.1
  have hw : (0 : Int) ≤ (vx 6 0 6).toInt ∧ (vx 6 0 6).toInt ≤ (6 : Int) := hJ.1.1 6 0 6
  have ew : vx 6 0 6 = vm 36 0 3 := hS.2.2.1
  have en : vx 10 0 4 = vm 36 0 5 := hM.2.1
  have e0 : (0 : Int32).toInt = 0 := by decide
  unfold g_X7_secret g_X8_secret
  rw [bx_nog, bm_isg vm (by rw [← ew]; exact hw.1), bx_far, bm_far, ← ew, tc_5, ← en]
  refine rel_ite Iff.rfl (fun _ => rel_some rfl) (fun c0 => ?_)
  have c0' := i_ne c0
  refine rel_ite Iff.rfl (fun _ => ?_) (fun _ => rel_some rfl)
  rw [q_secretIn vx a1 (by omega), Option.bind_some]
  refine rel_bindR (q_secretOf vm _) (fun r er => rel_some ?_)
  rw [er, hJ.2.1.scr]
theorem a_taken {vx vm : Mm} (hJ : J2 vx vm) (a1 a2 a3 : Int32) : rel (g_X7_taken vx a1 a2 a3) (g_X8_taken vm a1 a2 a3) (fun x y => x = y) := by
  have hS := hJ.2.1.1
  have hw : (0 : Int) ≤ (vx 6 0 6).toInt ∧ (vx 6 0 6).toInt ≤ (6 : Int) := hJ.1.1 6 0 6
  have ew : vx 6 0 6 = vm 36 0 3 := hS.2.2.1
  unfold g_X7_taken g_X8_taken
  rw [bx_word, bm_word vm (by rw [← ew]; exact hw.1), bx_hour, bm_hour, bx_far, bm_far, ← ew]
  refine rel_ite Iff.rfl (fun c1 => ?_) (fun _ => rel_some rfl)
  refine rel_ite Iff.rfl (fun c2 => ?_) (fun _ => rel_some rfl)
  refine rel_ite Iff.rfl (fun c3 => ?_) (fun _ => rel_some rfl)
  have hR := RG5.of hJ.1.1 hJ.1.2.1 hS (by omega)
  refine rel_bindL (x_taken hR hS c1 c2 c3) (fun r er => ?_)
  have h01 : r = 0 ∨ r = 1 := by rw [er]; exact cat_01 _ _ _ _ _ _ _ _
  rw [q_bit h01, Option.bind_some]
  refine rel_someL ?_
  refine (pk_id01 (m_taken hR hJ.2.1 c1 c2 c3) (cat_01 _ _ _ _ _ _ _ _)).mono (fun z hz => ?_)
  rw [er, hz]
theorem a_next {vx vm : Mm} (hJ : J2 vx vm) (a1 : Int32) : rel (g_X7_next vx a1) (g_X8_next vm a1) (fun x y => x = y) := by
  have hS := hJ.2.1.1
  have hM := hJ.2.1.2.1
  have hw : (0 : Int) ≤ (vx 6 0 6).toInt ∧ (vx 6 0 6).toInt ≤ (6 : Int) := hJ.1.1 6 0 6
  have ew : vx 6 0 6 = vm 36 0 3 := hS.2.2.1
  have en : vx 10 0 4 = vm 36 0 5 := hM.2.1
  have e1 : (1 : Int32).toInt = 1 := by decide
  have e60 : (60 : Int32).toInt = 60 := by decide
  have e61 : (61 : Int32).toInt = 61 := by decide
  unfold g_X7_next g_X8_next
  rw [bx_word, bm_word vm (by rw [← ew]; exact hw.1), ← ew]
  refine rel_ite Iff.rfl (fun c1 => ?_) (fun _ => rel_some rfl)
  have loop : ∀ (n m : Nat) (x : Int32), 0 ≤ x.toInt → x.toInt ≤ 61 → rel (g_X2_nightsUntil_L2 vx 0 a1 n x) (g_X8_next_L13 vm a1 m x) (fun x y => x = y) := by
    intro n
    induction n with
    | zero => intro m x _ _ a b e; cases e
    | succ n ih =>
      intro m x h0 h1
      cases m with
      | zero => intro a b _ e; cases e
      | succ m =>
        show rel (b_X2_nightsUntil_L2 (g_X2_nightsUntil_L2 vx 0 a1 n) vx 0 a1 x) (b_X8_next_L13 (g_X8_next_L13 vm a1 m) vm a1 x) _
        unfold b_X2_nightsUntil_L2 b_X8_next_L13
        rw [tc_5, ← en, q_secretIn vx x (by omega), Option.bind_some]
        refine rel_ite ?_ (fun _ => rel_some rfl) (fun c => ?_)
        · exact ⟨fun q => Int32.le_iff_toInt_le.mpr (by have := i_lt q; omega), fun q => Int32.lt_iff_toInt_lt.mpr (by have := i_le q; omega)⟩
        · have c' := i_nlt c
          have ex := sp_addx x 1 (by omega)
          refine rel_bindR (q_secretOf vm _) (fun r er => ?_)
          rw [hJ.2.1.scr] at er
          rw [er]
          exact rel_ite Iff.rfl (fun _ => rel_some rfl) (fun _ => ih m (x + 1) (by omega) (by omega))
  refine (loop 2000 2000 0 (by decide) (by decide)).mono (fun a b h => h) |> fun k => ?_
  show rel (Option.bind (g_X2_nightsUntil vx 0 a1) (fun r6 => some r6)) _ _
  have e : Option.bind (g_X2_nightsUntil vx 0 a1) (fun r6 => some r6) = g_X2_nightsUntil vx 0 a1 := by
    cases g_X2_nightsUntil vx 0 a1 <;> rfl
  rw [e]
  exact k
theorem a_kind {vx vm : Mm} (hJ : J2 vx vm) (a1 : Int32) : rel (g_X7_kind vx a1) (g_X8_kind vm a1) (fun x y => x = y) := by
  have hS := hJ.2.1.1
  have hg : (0 : Int) ≤ (vx 6 0 7).toInt ∧ (vx 6 0 7).toInt ≤ (4 : Int) := hJ.1.1 6 0 7
  have eg : vx 6 0 7 = vm 36 0 4 := hS.2.2.2.1
  unfold g_X7_kind g_X8_kind g_X8_kindIn
  rw [bx_guard, bm_guard vm (by rw [← eg]; exact hg.1), ← eg]
  refine rel_ite Iff.rfl (fun c1 => ?_) (fun _ => rel_some rfl)
  have t1 := tcn a1
  obtain ⟨x1, -, -⟩ := ixm (x := a1) (k := Int32.toNatClampNeg a1) 26 26 (by decide) (by omega) (by omega) (by omega)
  rw [x1]
  refine rel_grdL _ (fun _ => ?_)
  by_cases q : (26 : Int32) + ((3 : Int32) * a1) < 0 ∨ 65 ≤ 26 + 3 * Int32.toNatClampNeg a1
  · rw [if_pos q]; intro a b _ e; cases e
  · rw [if_neg q, Option.bind_some]
    refine rel_some ?_
    exact (hS.kds hg.2).2 _ (by omega)
/-! counts -/
def sm (f : Nat → Int32) : Nat → Int32
  | 0 => 0
  | n + 1 => sm f n + f n
theorem sm_congr {f g : Nat → Int32} : ∀ n, (∀ k, k < n → f k = g k) → sm f n = sm g n := by
  intro n
  induction n with
  | zero => intro _; rfl
  | succ n ih => intro h; show sm f n + f n = sm g n + g n; rw [ih (fun k hk => h k (by omega)), h n (by omega)]
theorem sm_zero {f : Nat → Int32} {a : Nat} : ∀ d, (∀ k, a ≤ k → k < a + d → f k = 0) → sm f (a + d) = sm f a := by
  intro d
  induction d with
  | zero => intro _; rfl
  | succ d ih => intro h; show sm f (a + d) + f (a + d) = sm f a; rw [ih (fun k h1 h2 => h k h1 (by omega)), h (a + d) (by omega) (by omega), Int32.add_zero]
theorem p_tookX (v : Mm) : pk (g_X4_tookInAll v 0) (fun r => r = sm (v 11 0) 4) := by
  have e1 : (1 : Int32).toInt = 1 := by decide
  have e4 : (4 : Int32).toInt = 4 := by decide
  have loop : ∀ (n : Nat) (y x : Int32) (k : Nat), x.toInt = (k : Int) → k ≤ 4 → y = sm (v 11 0) k → pk (g_X4_tookInAll_L4 v 0 n y x) (fun r => r = sm (v 11 0) 4) := by
    intro n
    induction n with
    | zero => intro y x k _ _ _ b e; cases e
    | succ n ih =>
      intro y x k hx hk hy
      show pk (b_X4_tookInAll_L4 (g_X4_tookInAll_L4 v 0 n) v 0 y x) _
      unfold b_X4_tookInAll_L4
      refine pk_ite _ (fun c => ?_) (fun c => ?_)
      · have := i_le c
        obtain rfl : k = 4 := by omega
        exact pk_some hy
      · have := i_nle c
        have ex := sp_addx x 1 (by omega)
        have hc : Int32.toNatClampNeg x = k := by rw [tcn]; omega
        refine pk_grd _ (fun _ => pk_let (fun z ez => ih z (x + 1) (k + 1) (by omega) (by omega) ?_))
        rw [ez, hc, hy]; rfl
  unfold g_X4_tookInAll
  exact loop 2000 0 0 0 (by decide) (by omega) rfl
theorem p_tookM (v : Mm) (a1 : Int32) (h0 : 0 ≤ (v 36 0 4).toInt ∧ (v 36 0 4).toInt ≤ 4) : pk (g_X8_count_L144 v a1 2000 0 0) (fun r => r = sm (fun g => v 36 0 (26 + 3 * g + 2)) (Int32.toNatClampNeg (v 36 0 4))) := by
  have e1 : (1 : Int32).toInt = 1 := by decide
  have c4 := tcn (v 36 0 4)
  have loop : ∀ (n : Nat) (y x : Int32) (k : Nat), x.toInt = (k : Int) → k ≤ Int32.toNatClampNeg (v 36 0 4) → y = sm (fun g => v 36 0 (26 + 3 * g + 2)) k → pk (g_X8_count_L144 v a1 n y x) (fun r => r = sm (fun g => v 36 0 (26 + 3 * g + 2)) (Int32.toNatClampNeg (v 36 0 4))) := by
    intro n
    induction n with
    | zero => intro y x k _ _ _ b e; cases e
    | succ n ih =>
      intro y x k hx hk hy
      show pk (b_X8_count_L144 (g_X8_count_L144 v a1 n) v a1 y x) _
      unfold b_X8_count_L144
      rw [tc_4]
      refine pk_ite _ (fun c => ?_) (fun c => ?_)
      · have := i_le c
        obtain rfl : k = Int32.toNatClampNeg (v 36 0 4) := by omega
        exact pk_some hy
      · have := i_nle c
        have ex := sp_addx x 1 (by omega)
        obtain ⟨-, -, x3⟩ := ixm (x := x) (k := k) 26 26 (by decide) (by omega) hx (by omega)
        rw [x3]
        refine pk_grd _ (fun _ => pk_let (fun z ez => ih z (x + 1) (k + 1) (by omega) (by omega) ?_))
        rw [ez, hy]; rfl
  exact loop 2000 0 0 0 (by decide) (by omega) rfl
theorem a_count {vx vm : Mm} (hJ : J2 vx vm) (a1 : Int32) : rel (g_X7_count vx a1) (g_X8_count vm a1) (fun x y => x = y) := by
  have hS := hJ.2.1.1
  have hM := hJ.2.1.2.1
  have hg : (0 : Int) ≤ (vx 6 0 7).toInt ∧ (vx 6 0 7).toInt ≤ (4 : Int) := hJ.1.1 6 0 7
  have eg : vx 6 0 7 = vm 36 0 4 := hS.2.2.2.1
  have e1 : (1 : Int32).toInt = 1 := by decide
  have e8 : (8 : Int32).toInt = 8 := by decide
  have bid : ∀ o : Option Int32, Option.bind o (fun r => some r) = o := fun o => by cases o <;> rfl
  unfold g_X7_count g_X8_count
  rw [bid, bid, tc_3, tc_4, tc_5, tc_6, tc_7, tc_0]
  refine rel_ite Iff.rfl (fun _ => ?_) (fun _ => ?_)
  · have loop : ∀ (n m : Nat) (y x : Int32), 0 ≤ x.toInt → x.toInt ≤ 8 → rel (g_X7_rowsThere_L4 vx n y x) (g_X8_count_L58 vm a1 m y x) (fun x y => x = y) := by
      intro n
      induction n with
      | zero => intro m y x _ _ a b e; cases e
      | succ n ih =>
        intro m y x h0 h1
        cases m with
        | zero => intro a b _ e; cases e
        | succ m =>
          show rel (b_X7_rowsThere_L4 (g_X7_rowsThere_L4 vx n) vx y x) (b_X8_count_L58 (g_X8_count_L58 vm a1 m) vm a1 y x) _
          unfold b_X7_rowsThere_L4 b_X8_count_L58 g_X8_isMissing
          refine rel_ite Iff.rfl (fun _ => rel_some rfl) (fun c => ?_)
          have c' := i_nle c
          have ex := sp_addx x 1 (by omega)
          have t1 := tcn x
          refine rel_grdL _ (fun _ => ?_)
          by_cases q : x < 0 ∨ 8 ≤ Int32.toNatClampNeg x
          · rw [if_pos q]; intro a b _ e; cases e
          rw [if_neg q]
          rcases hJ.1.2.2.1.1 (Int32.toNatClampNeg x) (by omega) with ⟨p1, p2⟩ | ⟨p1, p2, p3⟩
          · rw [p1, p2, if_pos rfl, if_pos rfl, bind1, Int32.add_zero]
            exact ih m y (x + 1) (by omega) (by omega)
          · have n1 : ¬ vx 2 (Int32.toNatClampNeg x) 1 = -1 := fun z => by
              rw [z] at p2; exact absurd p2 (by decide)
            have n2 : ¬ vm 31 0 (Int32.toNatClampNeg x) = -1000000 := fun z => by
              rw [p1, z] at p2; exact absurd p2 (by decide)
            rw [if_neg n1, if_neg n2, bind0]
            exact ih m (y + 1) (x + 1) (by omega) (by omega)
    exact loop 2000 2000 0 0 (by decide) (by decide)
  refine rel_ite Iff.rfl (fun _ => rel_some hS.2.2.1) (fun _ => ?_)
  refine rel_ite Iff.rfl (fun _ => rel_some eg) (fun _ => ?_)
  refine rel_ite Iff.rfl (fun _ => rel_some hM.2.1) (fun _ => ?_)
  refine rel_ite Iff.rfl (fun _ => rel_some hM.2.2.2.1) (fun _ => ?_)
  refine rel_ite Iff.rfl (fun _ => rel_some hM.2.2.1) (fun _ => ?_)
  refine rel_ite Iff.rfl (fun _ => rel_some hJ.2.1.2.2.1) (fun _ => ?_)
  refine rel_ite Iff.rfl (fun _ => rel_some hJ.1.2.2.2.1) (fun _ => ?_)
  refine rel_ite Iff.rfl (fun _ => rel_some hM.1) (fun _ => ?_)
  refine rel_ite Iff.rfl (fun _ => ?_) (fun _ => rel_some rfl)
  have c4 := tcn (vm 36 0 4)
  intro a b ea eb
  have ha := p_tookX vx a ea
  have hb := p_tookM vm a1 (by rw [← eg]; exact hg) b eb
  show a = b
  rw [ha, hb]
  have m5 := hM.2.2.2.2.1
  simp only [Nat.zero_add] at m5
  rw [← eg] at c4
  have l4 : Int32.toNatClampNeg (vm 36 0 4) ≤ 4 := by rw [← eg]; omega
  obtain ⟨d, ed⟩ : ∃ d, Int32.toNatClampNeg (vm 36 0 4) + d = 4 := ⟨4 - Int32.toNatClampNeg (vm 36 0 4), by omega⟩
  rw [← eg] at ed l4 m5 ⊢
  rw [show (4 : Nat) = Int32.toNatClampNeg (vx 6 0 7) + d from ed.symm, sm_zero d (fun k h1 h2 => ?_)]
  · refine sm_congr _ (fun k hk => ?_)
    rw [m5 k (by omega), if_pos (by omega)]
  · rw [m5 k (by omega), if_neg (by omega)]
theorem a_fault {vx vm : Mm} (hJ : J2 vx vm) : rel (g_X7_fault vx) (g_X8_fault vm) (fun x y => x = y) := rel_some hJ.2.2.2
