/-! safe, near, agree -/
def SFE (v : Mm) (hour d : Int32) : Int32 := orb (fun k => if CT v (nI k) hour d = 0 then 1 else 0) (Int32.toNatClampNeg (v 6 0 6))
theorem x_words {vx vm : Mm} (hR : RG5 vx) (h : RSt vx 0 vm 36 0) {hour d : Int32} (hh : 0 ≤ hour.toInt ∧ hour.toInt < 6) (hd : 0 ≤ d.toInt ∧ d.toInt ≤ 60) : pk (g_X2_wordsIn vx 0 hour d) (fun r => r = SFE vx hour d) := by
  have e1 : (1 : Int32).toInt = 1 := by decide
  have cw := tcn (vx 6 0 6)
  have w6 := hR.1
  have loop : ∀ (n : Nat) (y x : Int32) (k : Nat), x.toInt = (k : Int) → k ≤ Int32.toNatClampNeg (vx 6 0 6) → y = orb (fun k => if CT vx (nI k) hour d = 0 then 1 else 0) k → pk (g_X2_wordsIn_L5 vx 0 hour d n y x) (fun r => r = SFE vx hour d) := by
    intro n
    induction n with
    | zero => intro y x k _ _ _ b e; cases e
    | succ n ih =>
      intro y x k hx hk hy
      show pk (b_X2_wordsIn_L5 (g_X2_wordsIn_L5 vx 0 hour d n) vx 0 hour d y x) _
      unfold b_X2_wordsIn_L5
      refine pk_ite _ (fun c => ?_) (fun c => ?_)
      · have := i_le c
        obtain rfl : k = Int32.toNatClampNeg (vx 6 0 6) := by omega
        exact pk_some hy
      · have := i_nle c
        have ex := sp_addx x 1 (by omega)
        have hx' := nI_ofk hx
        refine pk_bind (x_taken hR h (w := x) ⟨by omega, by omega⟩ hh hd) (fun r er => ?_)
        rw [q_bit (Or.inr rfl), q_bit (Or.inl rfl), Option.bind_some, Option.bind_some]
        refine pk_ite _ (fun c2 => ?_) (fun c2 => ?_)
        · refine ih _ (x + 1) (k + 1) (by omega) (by omega) ?_
          show _ = orb _ k ||| ((if CT vx (nI k) hour d = 0 then (1 : Int32) else 0) <<< (nI k &&& 31))
          rw [← hx', ← er, if_pos c2, hy]
        · refine ih _ (x + 1) (k + 1) (by omega) (by omega) ?_
          show _ = orb _ k ||| ((if CT vx (nI k) hour d = 0 then (1 : Int32) else 0) <<< (nI k &&& 31))
          rw [← hx', ← er, if_neg c2, hy]
  unfold g_X2_wordsIn
  exact loop 2000 0 0 0 (by decide) (by omega) rfl
theorem m_safe {vx vm : Mm} (hR : RG5 vx) (h : GB vx vm) {hour d : Int32} (hh : 0 ≤ hour.toInt ∧ hour.toInt < 6) (hd : 0 ≤ d.toInt ∧ d.toInt ≤ 60) : pk (g_X8_safe_L32 vm hour d 2000 0 0) (fun r => r = SFE vx hour d) := by
  have e1 : (1 : Int32).toInt = 1 := by decide
  have ew : vx 6 0 6 = vm 36 0 3 := h.1.2.2.1
  have cw := tcn (vx 6 0 6)
  have w6 := hR.1
  have loop : ∀ (n : Nat) (y x : Int32) (k : Nat), x.toInt = (k : Int) → k ≤ Int32.toNatClampNeg (vx 6 0 6) → y = orb (fun k => if CT vx (nI k) hour d = 0 then 1 else 0) k → pk (g_X8_safe_L32 vm hour d n y x) (fun r => r = SFE vx hour d) := by
    intro n
    induction n with
    | zero => intro y x k _ _ _ b e; cases e
    | succ n ih =>
      intro y x k hx hk hy
      show pk (b_X8_safe_L32 (g_X8_safe_L32 vm hour d n) vm hour d y x) _
      unfold b_X8_safe_L32
      rw [tc_3, ← ew]
      refine pk_ite _ (fun c => ?_) (fun c => ?_)
      · have := i_le c
        obtain rfl : k = Int32.toNatClampNeg (vx 6 0 6) := by omega
        exact pk_some hy
      · have := i_nle c
        have ex := sp_addx x 1 (by omega)
        have hx' := nI_ofk hx
        refine pk_bind (m_taken hR h (w := x) ⟨by omega, by omega⟩ hh hd) (fun r er => ?_)
        refine pk_ite _ (fun c2 => pk_let (fun x6 ex6 => ?_)) (fun c2 => ?_)
        · refine ih _ (x + 1) (k + 1) (by omega) (by omega) ?_
          show _ = orb _ k ||| ((if CT vx (nI k) hour d = 0 then (1 : Int32) else 0) <<< (nI k &&& 31))
          rw [← hx', ← er, if_pos c2, ex6, hy]
        · refine ih _ (x + 1) (k + 1) (by omega) (by omega) ?_
          show _ = orb _ k ||| ((if CT vx (nI k) hour d = 0 then (1 : Int32) else 0) <<< (nI k &&& 31))
          rw [← hx', ← er, if_neg c2, sh0, hy]
  exact loop 2000 0 0 0 (by decide) (by omega) rfl
theorem a_safe {vx vm : Mm} (hJ : J2 vx vm) (a1 a2 : Int32) : rel (g_X7_safe vx a1 a2) (g_X8_safe vm a1 a2) (fun x y => x = y) := by
  have hS := hJ.2.1.1
  have e0 : (0 : Int32).toInt = 0 := by decide
  have hw : (0 : Int) ≤ (vx 6 0 6).toInt ∧ (vx 6 0 6).toInt ≤ (6 : Int) := hJ.1.1 6 0 6
  have ew : vx 6 0 6 = vm 36 0 3 := hS.2.2.1
  unfold g_X7_safe g_X8_safe
  rw [bx_nog, bm_isg vm (by rw [← ew]; exact hw.1), bx_hour, bm_hour, bx_far, bm_far, ← ew]
  refine rel_ite Iff.rfl (fun _ => rel_some rfl) (fun c0 => ?_)
  have c0' := i_ne c0
  refine rel_ite Iff.rfl (fun c1 => ?_) (fun _ => rel_some rfl)
  refine rel_ite Iff.rfl (fun c2 => ?_) (fun _ => rel_some rfl)
  have hR := RG5.of hJ.1.1 hJ.1.2.1 hS (by omega)
  refine rel_bindL (x_words hR hS c1 c2) (fun r er => rel_someL ((m_safe hR hJ.2.1 c1 c2).mono (fun z hz => ?_)))
  rw [er, hz]
/-! near -/
theorem d01_sym (x y : Int32) : d01 x y = d01 y x := by
  unfold d01
  by_cases h : x = y
  · rw [if_pos h, if_pos h.symm]
  · rw [if_neg h, if_neg (fun q => h q.symm)]
theorem dst_sym (L : Nat → Int32) (a b : Nat) : dst L a b = dst L b a := by
  unfold dst
  rw [d01_sym (L (3 * a)), d01_sym (L (3 * a + 1)), d01_sym (L (3 * a + 2))]
theorem d01_rg (x y : Int32) : (d01 x y).toInt = 0 ∨ (d01 x y).toInt = 1 := by
  unfold d01
  by_cases h : x = y
  · rw [if_pos h]; exact Or.inl (by decide)
  · rw [if_neg h]; exact Or.inr (by decide)
theorem dst_rg (L : Nat → Int32) (a b : Nat) : 0 ≤ (dst L a b).toInt ∧ (dst L a b).toInt ≤ 3 := by
  unfold dst
  have h1 := d01_rg (L (3 * a)) (L (3 * b))
  have h2 := d01_rg (L (3 * a + 1)) (L (3 * b + 1))
  have h3 := d01_rg (L (3 * a + 2)) (L (3 * b + 2))
  rw [Int32.zero_add]
  have s1 := sp_addx (d01 (L (3 * a)) (L (3 * b))) (d01 (L (3 * a + 1)) (L (3 * b + 1))) (by omega)
  have s2 := sp_addx (d01 (L (3 * a)) (L (3 * b)) + d01 (L (3 * a + 1)) (L (3 * b + 1))) (d01 (L (3 * a + 2)) (L (3 * b + 2))) (by omega)
  omega
theorem a_near {vx vm : Mm} (hJ : J2 vx vm) (a1 a2 : Int32) : rel (g_X7_near vx a1 a2) (g_X8_near vm a1 a2) (fun x y => x = y) := by
  have hS := hJ.2.1.1
  have e0 : (0 : Int32).toInt = 0 := by decide
  have e1 : (1 : Int32).toInt = 1 := by decide
  have e4 : (4 : Int32).toInt = 4 := by decide
  have eN : (-1000000 : Int32).toInt = -1000000 := by decide
  have hw : (0 : Int) ≤ (vx 6 0 6).toInt ∧ (vx 6 0 6).toInt ≤ (6 : Int) := hJ.1.1 6 0 6
  have ew : vx 6 0 6 = vm 36 0 3 := hS.2.2.1
  unfold g_X7_near g_X8_near
  rw [bx_word, bm_word vm (by rw [← ew]; exact hw.1), rng3, b_in, ← ew]
  refine rel_ite Iff.rfl (fun c1 => ?_) (fun _ => rel_some rfl)
  refine rel_ite Iff.rfl (fun _ => ?_) (fun _ => rel_some rfl)
  have ca := tcn a1
  have deq : ∀ x : Int32, 0 ≤ x.toInt → x.toInt < (vx 6 0 6).toInt → dst (LM vm) (Int32.toNatClampNeg x) (Int32.toNatClampNeg a1) = dst (vx 7 0) (Int32.toNatClampNeg a1) (Int32.toNatClampNeg x) := fun x h1 h2 => by
    have cx := tcn x
    rw [dst_sym, ← dst_congr (hS.let3 hw.2 (a := Int32.toNatClampNeg a1) (b := Int32.toNatClampNeg x) (by omega) (by omega))]
  -- the two loops hand on the same word
  have fin : ∀ (r : Int32), (r = -1000000 ∨ (0 ≤ r.toInt ∧ r.toInt < (vx 6 0 6).toInt)) → rel (if a2 = 0 then (some r) else (if r = (-1000000) then (some r) else (Option.bind (g_X2_distance vx 0 a1 r) (fun r13 => some r13)))) (if r = (-1000000) then (some r) else (if a2 = 0 then (some r) else (Option.bind (g_X8_distance vm r a1) (fun r13 => some r13)))) (fun x y => x = y) := by
    intro r hr
    by_cases q0 : a2 = 0
    · rw [if_pos q0, if_pos q0, ite_self]; exact rel_some rfl
    · rw [if_neg q0, if_neg q0]
      refine rel_ite Iff.rfl (fun _ => rel_some rfl) (fun qn => ?_)
      have hr := hr.resolve_left qn
      refine rel_bindL (p_dist vx 0 a1 r (by omega) (by omega)) (fun x ex => rel_bindR (p_distM vm r a1 (by omega) (by omega)) (fun y ey => rel_some ?_))
      rw [ex, ey, deq r hr.1 hr.2]
  have loop : ∀ (n m : Nat) (b l x : Int32), 0 ≤ x.toInt → x.toInt ≤ (vx 6 0 6).toInt → ((b = -1000000 ∧ l = 4) ∨ ((0 ≤ b.toInt ∧ b.toInt < (vx 6 0 6).toInt) ∧ l = dst (vx 7 0) (Int32.toNatClampNeg a1) (Int32.toNatClampNeg b))) → rel (Option.bind (g_X2_nearestTo_L8 vx 0 a1 n b l x) (fun r8 => if a2 = 0 then (some r8) else (if r8 = (-1000000) then (some r8) else (Option.bind (g_X2_distance vx 0 a1 r8) (fun r13 => some r13))))) (g_X8_near_L26 vm a1 a2 m b x) (fun x y => x = y) := by
    intro n
    induction n with
    | zero => intro m b l x _ _ _ a c e; cases e
    | succ n ih =>
      intro m b l x h0 h1 hb
      cases m with
      | zero => intro a c _ e; cases e
      | succ m =>
        show rel (Option.bind (b_X2_nearestTo_L8 (g_X2_nearestTo_L8 vx 0 a1 n) vx 0 a1 b l x) _) (b_X8_near_L26 (g_X8_near_L26 vm a1 a2 m) vm a1 a2 b x) _
        unfold b_X2_nearestTo_L8 b_X8_near_L26
        rw [tc_3, ← ew]
        by_cases c : vx 6 0 6 ≤ x
        · rw [if_pos c, if_pos c, Option.bind_some]
          refine fin b ?_
          rcases hb with ⟨p, -⟩ | ⟨p, -⟩
          · exact Or.inl p
          · exact Or.inr p
        have c' := i_nle c
        have ex := sp_addx x 1 (by omega)
        rw [if_neg c, if_neg c]
        by_cases c2 : x = a1
        · rw [if_pos c2, if_pos c2]
          exact ih m b l (x + 1) (by omega) (by omega) hb
        rw [if_neg c2, if_neg c2]
        have dr := dst_rg (vx 7 0) (Int32.toNatClampNeg a1) (Int32.toNatClampNeg x)
        rw [Option.bind_assoc]
        refine rel_bindL (p_dist vx 0 a1 x (by omega) (by omega)) (fun r er => ?_)
        rcases hb with ⟨p1, p2⟩ | ⟨p1, p2⟩
        · rw [p1, p2, if_pos rfl, if_neg (fun q => by have := i_le q; rw [er] at this; omega), Option.bind_assoc]
          refine rel_bindL (p_dist vx 0 a1 x (by omega) (by omega)) (fun r8 er8 => ?_)
          exact ih m x r8 (x + 1) (by omega) (by omega) (Or.inr ⟨⟨h0, c'⟩, er8⟩)
        · have nb : ¬ b = -1000000 := fun q => by have := i_eq q; omega
          rw [if_neg nb]
          refine rel_bindR (p_distM vm x a1 (by omega) (by omega)) (fun r18 er18 => rel_bindR (p_distM vm b a1 (by omega) (by omega)) (fun r21 er21 => ?_))
          rw [er18, er21, deq x h0 c', deq b p1.1 p1.2, er, p2]
          by_cases c3 : dst (vx 7 0) (Int32.toNatClampNeg a1) (Int32.toNatClampNeg b) ≤ dst (vx 7 0) (Int32.toNatClampNeg a1) (Int32.toNatClampNeg x)
          · rw [if_pos c3, if_pos c3]
            exact ih m b _ (x + 1) (by omega) (by omega) (Or.inr ⟨p1, rfl⟩)
          · rw [if_neg c3, if_neg c3, Option.bind_assoc]
            refine rel_bindL (p_dist vx 0 a1 x (by omega) (by omega)) (fun r8 er8 => ?_)
            exact ih m x r8 (x + 1) (by omega) (by omega) (Or.inr ⟨⟨h0, c'⟩, er8⟩)
  exact loop 2000 2000 (-1000000) 4 0 (by decide) (by rw [e0]; exact hw.1) (Or.inl ⟨rfl, rfl⟩)
