/-! what agrees with who was taken -/
def allB (p : Nat → Bool) : Nat → Bool
  | 0 => true
  | n + 1 => allB p n && p n
theorem allB_iff (p : Nat → Bool) : ∀ n, allB p n = true ↔ ∀ k, k < n → p k = true := by
  intro n
  induction n with
  | zero => exact ⟨fun _ k hk => absurd hk (Nat.not_lt_zero k), fun _ => rfl⟩
  | succ n ih =>
    show (allB p n && p n) = true ↔ _
    rw [Bool.and_eq_true, ih]
    refine ⟨fun h k hk => ?_, fun h => ⟨fun k hk => h k (by omega), h n (by omega)⟩⟩
    by_cases q : k = n
    · rw [q]; exact h.2
    · exact h.1 k (by omega)
def OKB (v : Mm) (s k : Nat) : Bool := decide ((if (v 13 0 k).toInt < 0 then (0 : Int32) else tkn (v 7 0) (v 8 0 (Int32.toNatClampNeg (v 13 0 k))) (Int32.toNatClampNeg (v 12 0 k)) s (v 10 0 4)) = v 14 0 k)
def AGR (v : Mm) (s : Nat) : Int32 := if allB (OKB v s) (Int32.toNatClampNeg (v 10 0 7)) = true then 1 else 0
theorem AGR_01 (v : Mm) (s : Nat) : AGR v s = 0 ∨ AGR v s = 1 := by
  unfold AGR
  split
  · exact Or.inr rfl
  · exact Or.inl rfl
/-- what is tried: ranges -/
def TRY5 (v : Mm) : Prop := (0 ≤ (v 10 0 7).toInt ∧ (v 10 0 7).toInt ≤ 9) ∧ (∀ k, 0 ≤ (v 12 0 k).toInt ∧ (v 12 0 k).toInt ≤ 5) ∧ (∀ k : Nat, (k : Int) < (v 10 0 7).toInt → (v 12 0 k).toInt < (v 6 0 6).toInt ∧ (v 13 0 k).toInt < (v 6 0 7).toInt ∧ ((v 13 0 k).toInt < 0 → v 14 0 k = 0) ∧ (v 14 0 k = 0 ∨ v 14 0 k = 1))
theorem TRY5.of {vx vm : Mm} (hX : PW rgX vx) (hR : RG5 vx) (h : GB vx vm) : TRY5 vx := by
  have ht : (0 : Int) ≤ (vx 10 0 7).toInt ∧ (vx 10 0 7).toInt ≤ (9 : Int) := hX 10 0 7
  have eg : vx 6 0 7 = vm 36 0 4 := h.1.2.2.2.1
  have e7 : vx 10 0 7 = vm 36 0 7 := h.2.1.2.2.2.1
  have eN : (-1000000 : Int32).toInt = -1000000 := by decide
  have e1 : (1 : Int32).toInt = 1 := by decide
  refine ⟨ht, fun k => hX 12 0 k, fun k hk => ?_⟩
  have q := h.2.1.2.2.2.2.2.1 k (by omega) (by rw [Nat.zero_add, ← e7]; exact hk)
  simp only [Nat.zero_add] at q
  obtain ⟨-, q2, q3, q4, q5, -, q7⟩ := q
  have ew : vx 6 0 6 = vm 36 0 3 := h.1.2.2.1
  rw [← ew] at q7
  rcases q2 with ⟨p1, p2⟩ | ⟨p1, p2, p3⟩
  · refine ⟨q7, ?_, fun _ => q5 p1, q4⟩
    rw [p2, eN]; have := hR.2.1; omega
  · rw [← eg] at p2
    have g7 := hR.2.1
    have s := sp_subx (vm 36 0 (38 + 3 * k + 1)) 1 (by omega)
    refine ⟨q7, ?_, fun z => ?_, q4⟩
    · rw [p3]; omega
    · rw [p3] at z; omega
theorem x_agr {vx : Mm} (hR : RG5 vx) (hK : KDS (vx 8 0) (vx 6 0 7)) (hT : TRY5 vx) {x : Int32} (hx : 0 ≤ x.toInt ∧ x.toInt ≤ 6) : pk (g_X3_agreesWithTries vx 0 x) (fun r => r = AGR vx (Int32.toNatClampNeg x)) := by
  have e1 : (1 : Int32).toInt = 1 := by decide
  have e0 : (0 : Int32).toInt = 0 := by decide
  have ct := tcn (vx 10 0 7)
  obtain ⟨t1, t2, t3⟩ := hT
  have bad : ∀ k, k < Int32.toNatClampNeg (vx 10 0 7) → OKB vx (Int32.toNatClampNeg x) k = false → (0 : Int32) = AGR vx (Int32.toNatClampNeg x) := by
    intro k hk h
    unfold AGR
    rw [if_neg]
    intro q
    rw [(allB_iff _ _).mp q k hk] at h
    cases h
  have loop : ∀ (n : Nat) (y : Int32) (k : Nat), y.toInt = (k : Int) → k ≤ Int32.toNatClampNeg (vx 10 0 7) → (∀ j, j < k → OKB vx (Int32.toNatClampNeg x) j = true) → pk (g_X3_agreesWithTries_L7 vx 0 x n y) (fun r => r = AGR vx (Int32.toNatClampNeg x)) := by
    intro n
    induction n with
    | zero => intro y k _ _ _ b e; cases e
    | succ n ih =>
      intro y k hy hk hok
      show pk (b_X3_agreesWithTries_L7 (g_X3_agreesWithTries_L7 vx 0 x n) vx 0 x y) _
      unfold b_X3_agreesWithTries_L7
      refine pk_ite _ (fun c => ?_) (fun c => ?_)
      · have := i_le c
        obtain rfl : k = Int32.toNatClampNeg (vx 10 0 7) := by omega
        refine pk_some ?_
        unfold AGR
        rw [if_pos ((allB_iff _ _).mpr hok)]
      · have c' := i_nle c
        have ey := sp_addx y 1 (by omega)
        have hc : Int32.toNatClampNeg y = k := by rw [tcn]; omega
        rw [hc]
        obtain ⟨-, u1, u2, u3⟩ := t3 k (by omega)
        -- what follows once it is known whether he would be taken
        have go : ∀ t : Int32, (t = vx 14 0 k ↔ OKB vx (Int32.toNatClampNeg x) k = true) → pk (if t = vx 14 0 k then (g_X3_agreesWithTries_L7 vx 0 x n (y + 1)) else (some 0)) (fun r => r = AGR vx (Int32.toNatClampNeg x)) := by
          intro t ht
          refine pk_ite _ (fun c2 => ?_) (fun c2 => ?_)
          · refine ih (y + 1) (k + 1) (by omega) (by omega) (fun j hj => ?_)
            by_cases q : j = k
            · rw [q]; exact ht.mp c2
            · exact hok j (by omega)
          · refine pk_some (bad k (by omega) ?_)
            cases q : OKB vx (Int32.toNatClampNeg x) k with
            | false => rfl
            | true => exact absurd (ht.mpr q) c2
        refine pk_grd _ (fun _ => pk_ite _ (fun c3 => ?_) (fun c3 => pk_ite _ (fun c4 => ?_) (fun c4 => ?_)))
        · have c3' := i_lt c3
          rw [q_bit (Or.inl rfl), Option.bind_some]
          refine pk_grd _ (fun _ => go 0 ?_)
          unfold OKB
          rw [decide_eq_true_iff, if_pos (by omega)]
        · have := i_le c4
          omega
        · have c3' := i_nlt c3
          have cg := tcn (vx 13 0 k)
          refine pk_grd _ (fun _ => pk_grd _ (fun _ => ?_))
          refine pk_bind (p_would vx _ (vx 12 0 k) x (vx 10 0 4) (by have := t2 k; omega) hx (hK _ (by omega))) (fun r er => ?_)
          have hOK : ∀ t : Int32, t = r → (t = vx 14 0 k ↔ OKB vx (Int32.toNatClampNeg x) k = true) := by
            intro t et
            unfold OKB
            rw [decide_eq_true_iff, if_neg (by omega), et, er]
          rw [q_bit (Or.inl rfl), q_bit (Or.inr rfl), Option.bind_some, Option.bind_some]
          refine pk_ite _ (fun c5 => pk_grd _ (fun _ => go 0 (hOK 0 c5.symm))) (fun c5 => pk_grd _ (fun _ => go 1 (hOK 1 ?_)))
          rcases tkn_01 (vx 7 0) (vx 8 0 (Int32.toNatClampNeg (vx 13 0 k))) (Int32.toNatClampNeg (vx 12 0 k)) (Int32.toNatClampNeg x) (vx 10 0 4) with q | q
          · rw [← er] at q; exact absurd q c5
          · rw [← er] at q; exact q.symm
  unfold g_X3_agreesWithTries
  exact loop 2000 0 0 (by decide) (by omega) (fun j hj => absurd hj (Nat.not_lt_zero j))
def AGS (v : Mm) : Int32 := orb (fun s => AGR v s) (Int32.toNatClampNeg (v 6 0 6))
theorem x_agree {vx : Mm} (hR : RG5 vx) (hK : KDS (vx 8 0) (vx 6 0 7)) (hT : TRY5 vx) : pk (g_X3_agreeing vx 0) (fun r => r = AGS vx) := by
  have e1 : (1 : Int32).toInt = 1 := by decide
  have cw := tcn (vx 6 0 6)
  have w6 := hR.1
  have loop : ∀ (n : Nat) (y x : Int32) (k : Nat), x.toInt = (k : Int) → k ≤ Int32.toNatClampNeg (vx 6 0 6) → y = orb (fun s => AGR vx s) k → pk (g_X3_agreeing_L4 vx 0 n y x) (fun r => r = AGS vx) := by
    intro n
    induction n with
    | zero => intro y x k _ _ _ b e; cases e
    | succ n ih =>
      intro y x k hx hk hy
      show pk (b_X3_agreeing_L4 (g_X3_agreeing_L4 vx 0 n) vx 0 y x) _
      unfold b_X3_agreeing_L4
      refine pk_ite _ (fun c => ?_) (fun c => ?_)
      · have := i_le c
        obtain rfl : k = Int32.toNatClampNeg (vx 6 0 6) := by omega
        exact pk_some hy
      · have := i_nle c
        have ex := sp_addx x 1 (by omega)
        have hx' := nI_ofk hx
        have hc : Int32.toNatClampNeg x = k := by rw [tcn]; omega
        refine pk_bind (x_agr hR hK hT ⟨by omega, by omega⟩) (fun r er => ?_)
        rw [hc] at er
        rw [q_bit (by rw [er]; exact AGR_01 vx k), Option.bind_some]
        refine ih _ (x + 1) (k + 1) (by omega) (by omega) ?_
        show _ = orb _ k ||| (AGR vx k <<< (nI k &&& 31))
        rw [← hx', er, hy]
  unfold g_X3_agreeing
  exact loop 2000 0 0 0 (by decide) (by omega) rfl
/-- the reference's inner loop: a secret tried against all that was tried -/
theorem m_agr {vx vm : Mm} (hR : RG5 vx) (h : GB vx vm) (hT : TRY5 vx) {rec4 : Int32 → Int32 → Option Int32} {P : Int32 → Prop} {x1 x2 : Int32} {s : Nat} (hx2 : x2.toInt = (s : Int)) (hs : (s : Int) < (vx 6 0 6).toInt) (hP : pk (rec4 (x1 ||| (AGR vx s <<< (x2 &&& 31))) (x2 + 1)) P) : pk (g_X8_agreeing_L19 rec4 vm 2000 x1 x2 1 0) P := by
  have e1 : (1 : Int32).toInt = 1 := by decide
  have e0 : (0 : Int32).toInt = 0 := by decide
  have w6 := hR.1
  have g7 := hR.2.1
  have cs : Int32.toNatClampNeg x2 = s := by rw [tcn]; omega
  have eg : vx 6 0 7 = vm 36 0 4 := h.1.2.2.2.1
  have e7 : vx 10 0 7 = vm 36 0 7 := h.2.1.2.2.2.1
  have e5 : vx 10 0 4 = vm 36 0 5 := h.2.1.2.1
  have ct := tcn (vx 10 0 7)
  obtain ⟨t1, t2, t3⟩ := hT
  have loop : ∀ (n : Nat) (is y : Int32) (k : Nat), y.toInt = (k : Int) → k ≤ Int32.toNatClampNeg (vx 10 0 7) → ((is = 1 ∧ ∀ j, j < k → OKB vx s j = true) ∨ (is = 0 ∧ AGR vx s = 0)) → pk (g_X8_agreeing_L19 rec4 vm n x1 x2 is y) P := by
    intro n
    induction n with
    | zero => intro is y k _ _ _ b e; cases e
    | succ n ih =>
      intro is y k hy hk hok
      show pk (b_X8_agreeing_L19 rec4 (g_X8_agreeing_L19 rec4 vm n) vm x1 x2 is y) P
      unfold b_X8_agreeing_L19
      rw [tc_7, tc_5, ← e7, ← e5]
      refine pk_ite _ (fun c => ?_) (fun c => ?_)
      · have := i_le c
        obtain rfl : k = Int32.toNatClampNeg (vx 10 0 7) := by omega
        rcases hok with ⟨p1, p2⟩ | ⟨p1, p2⟩
        · rw [p1, if_neg (by decide), Option.bind_some]
          have : AGR vx s = 1 := by unfold AGR; rw [if_pos ((allB_iff _ _).mpr p2)]
          rw [this] at hP
          exact hP
        · rw [p1, if_pos rfl]
          rw [p2, sh0] at hP
          exact hP
      · have c' := i_nle c
        have ey := sp_addx y 1 (by omega)
        obtain ⟨i0, i1, i2⟩ := ixm (x := y) (k := k) 38 38 (by decide) (by omega) hy (by omega)
        rw [i0, i1, i2]
        have q := h.2.1.2.2.2.2.2.1 k (by omega) (by rw [Nat.zero_add, ← e7]; omega)
        simp only [Nat.zero_add] at q
        obtain ⟨q1, q2, q3, q4, q5, -, -⟩ := q
        obtain ⟨u0, -, -, -⟩ := t3 k (by omega)
        refine pk_grd _ (fun _ => pk_let (fun x6 ex6 => ?_))
        rcases hok with ⟨p1, p2⟩ | ⟨p1, p2⟩
        rotate_left
        · rw [p1, if_pos rfl]
          exact ih 0 (y + 1) (k + 1) (by omega) (by omega) (Or.inr ⟨rfl, p2⟩)
        rw [p1, if_neg (by decide)]
        have good : OKB vx s k = true → pk (g_X8_agreeing_L19 rec4 vm n x1 x2 1 (y + 1)) P := fun hk2 => ih 1 (y + 1) (k + 1) (by omega) (by omega) (Or.inl ⟨rfl, fun j hj => by
          by_cases z : j = k
          · rw [z]; exact hk2
          · exact p2 j (by omega)⟩)
        have bad : OKB vx s k = false → pk (g_X8_agreeing_L19 rec4 vm n x1 x2 0 (y + 1)) P := fun hk2 => ih 0 (y + 1) (k + 1) (by omega) (by omega) (Or.inr ⟨rfl, by
          unfold AGR
          rw [if_neg]
          intro z
          rw [(allB_iff _ _).mp z k (by omega)] at hk2
          cases hk2⟩)
        rcases q2 with ⟨r1, r2⟩ | ⟨r1, r2, r3⟩
        · rw [r1] at ex6
          have x6n : x6 < 0 := by rw [ex6]; decide
          rw [if_pos x6n]
          refine good ?_
          unfold OKB
          rw [decide_eq_true_iff, r2, if_pos (by decide), q5 r1]
        · rw [← eg] at r2
          have s6 := sp_subx (vm 36 0 (38 + 3 * k + 1)) 1 (by omega)
          have e6 : x6 = vx 13 0 k := ex6.trans r3.symm
          have v13 : 0 ≤ (vx 13 0 k).toInt ∧ (vx 13 0 k).toInt < (vx 6 0 7).toInt := by rw [r3]; omega
          rw [e6, if_neg (fun z => by have := i_lt z; omega)]
          have cg := tcn (vx 13 0 k)
          unfold g_X8_kindIn
          obtain ⟨j0, -, -⟩ := ixm (x := vx 13 0 k) (k := Int32.toNatClampNeg (vx 13 0 k)) 26 26 (by decide) (by omega) (by omega) (by omega)
          rw [j0]
          by_cases z : (26 : Int32) + ((3 : Int32) * vx 13 0 k) < 0 ∨ 65 ≤ 26 + 3 * Int32.toNatClampNeg (vx 13 0 k)
          · rw [if_pos z]; intro b e; cases e
          rw [if_neg z, Option.bind_some]
          refine pk_grd _ (fun _ => ?_)
          rw [← q1]
          have tw := t2 k
          have cw := tcn (vx 12 0 k)
          refine pk_bind (p_takesBy vm _ (vx 12 0 k) x2 (vx 10 0 4) (by omega) (by omega)) (fun r14 er14 => ?_)
          have hkd : vm 36 0 (26 + 3 * Int32.toNatClampNeg (vx 13 0 k)) = vx 8 0 (Int32.toNatClampNeg (vx 13 0 k)) := ((h.1.kds g7.2).2 _ (by omega)).symm
          rw [hkd, cs, ← tkn_congr (h.1.let3 w6.2 (a := Int32.toNatClampNeg (vx 12 0 k)) (b := s) (by omega) hs)] at er14
          refine pk_grd _ (fun _ => ?_)
          rw [← q3]
          have hOK : r14 = vx 14 0 k ↔ OKB vx s k = true := by
            unfold OKB
            rw [decide_eq_true_iff, if_neg (by omega), er14]
          have t01 : r14 = 0 ∨ r14 = 1 := by rw [er14]; exact tkn_01 _ _ _ _ _
          have nOK : ¬ r14 = vx 14 0 k → OKB vx s k = false := fun z => by
            cases y : OKB vx s k with
            | false => rfl
            | true => exact absurd (hOK.mpr y) z
          by_cases z1 : vx 14 0 k = 1
          · rw [if_pos z1]
            refine pk_ite _ (fun z2 => good (hOK.mp (z2.trans z1.symm))) (fun z2 => bad (nOK (fun y => z2 (y.trans z1))))
          · have z0 : vx 14 0 k = 0 := q4.resolve_right z1
            rw [if_neg z1]
            refine pk_ite _ (fun z2 => good (hOK.mp (z2.trans z0.symm))) (fun z2 => bad (nOK (fun y => z2 (y.trans z0))))
  exact loop 2000 1 0 0 (by decide) (by omega) (Or.inl ⟨rfl, fun j hj => absurd hj (Nat.not_lt_zero j)⟩)
theorem m_agree {vx vm : Mm} (hR : RG5 vx) (h : GB vx vm) (hT : TRY5 vx) : pk (g_X8_agreeing vm) (fun r => r = AGS vx) := by
  have e1 : (1 : Int32).toInt = 1 := by decide
  have ew : vx 6 0 6 = vm 36 0 3 := h.1.2.2.1
  have cw := tcn (vx 6 0 6)
  have w6 := hR.1
  have loop : ∀ (n : Nat) (y x : Int32) (k : Nat), x.toInt = (k : Int) → k ≤ Int32.toNatClampNeg (vx 6 0 6) → y = orb (fun s => AGR vx s) k → pk (g_X8_agreeing_L4 vm n y x) (fun r => r = AGS vx) := by
    intro n
    induction n with
    | zero => intro y x k _ _ _ b e; cases e
    | succ n ih =>
      intro y x k hx hk hy
      show pk (b_X8_agreeing_L4 (g_X8_agreeing_L4 vm n) vm y x) _
      unfold b_X8_agreeing_L4
      rw [tc_3, ← ew]
      refine pk_ite _ (fun c => ?_) (fun c => ?_)
      · have := i_le c
        obtain rfl : k = Int32.toNatClampNeg (vx 6 0 6) := by omega
        exact pk_some hy
      · have := i_nle c
        have ex := sp_addx x 1 (by omega)
        have hx' := nI_ofk hx
        refine m_agr hR h hT hx (by omega) (ih _ (x + 1) (k + 1) (by omega) (by omega) ?_)
        show _ = orb _ k ||| (AGR vx k <<< (nI k &&& 31))
        rw [← hx', hy]
  unfold g_X8_agreeing
  exact loop 2000 0 0 0 (by decide) (by omega) rfl
theorem a_agree {vx vm : Mm} (hJ : J2 vx vm) : rel (g_X7_agree vx) (g_X8_agree vm) (fun x y => x = y) := by
  have hS := hJ.2.1.1
  have e0 : (0 : Int32).toInt = 0 := by decide
  have hw : (0 : Int) ≤ (vx 6 0 6).toInt ∧ (vx 6 0 6).toInt ≤ (6 : Int) := hJ.1.1 6 0 6
  have ew : vx 6 0 6 = vm 36 0 3 := hS.2.2.1
  unfold g_X7_agree g_X8_agree
  rw [bx_nog, bm_isg vm (by rw [← ew]; exact hw.1), ← ew]
  refine rel_ite Iff.rfl (fun _ => rel_some rfl) (fun c0 => ?_)
  have c0' := i_ne c0
  have hR := RG5.of hJ.1.1 hJ.1.2.1 hS (by omega)
  have hT := TRY5.of hJ.1.1 hR hJ.2.1
  refine rel_bindL (x_agree hR (hS.kds hR.2.1.2).1 hT) (fun r er => rel_bindR (m_agree hR hJ.2.1 hT) (fun q eq => rel_some ?_))
  rw [er, eq]
