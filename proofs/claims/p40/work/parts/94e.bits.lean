/-! SETS: bits of a number below 64 -/
def bsN (p : Nat → Bool) : Nat → Nat
  | 0 => 0
  | n + 1 => bsN p n ||| (if p n = true then 2 ^ n else 0)
theorem bs_bit (p : Nat → Bool) (i : Nat) : ∀ n, (bsN p n).testBit i = (decide (i < n) && p i) := by
  intro n
  induction n with
  | zero =>
    show (0 : Nat).testBit i = _
    rw [Nat.zero_testBit]
    have : decide (i < 0) = false := decide_eq_false (Nat.not_lt_zero i)
    rw [this, Bool.false_and]
  | succ n ih =>
    show (bsN p n ||| (if p n = true then 2 ^ n else 0)).testBit i = _
    rw [Nat.testBit_or, ih]
    by_cases q : i = n
    · subst q
      have h1 : decide (i < i) = false := decide_eq_false (Nat.lt_irrefl i)
      have h2 : decide (i < i + 1) = true := decide_eq_true (Nat.lt_succ_self i)
      rw [h1, h2, Bool.false_and, Bool.false_or, Bool.true_and]
      cases hp : p i with
      | true => rw [if_pos rfl, Nat.testBit_two_pow_self]
      | false => rw [if_neg (by decide), Nat.zero_testBit]
    · have h3 : (if p n = true then 2 ^ n else 0).testBit i = false := by
        by_cases hp : p n = true
        · rw [if_pos hp, Nat.testBit_two_pow_of_ne (fun e => q e.symm)]
        · rw [if_neg hp, Nat.zero_testBit]
      rw [h3, Bool.or_false]
      by_cases h : i < n
      · rw [decide_eq_true h, decide_eq_true (show i < n + 1 by omega)]
      · rw [decide_eq_false h, decide_eq_false (show ¬ i < n + 1 by omega)]
theorem bs_lt (p : Nat → Bool) (n : Nat) : bsN p n < 2 ^ n := by
  refine Nat.lt_pow_two_of_testBit _ (fun i hi => ?_)
  rw [bs_bit, decide_eq_false (show ¬ i < n by omega), Bool.false_and]
theorem bs_lt64 (p : Nat → Bool) {n : Nat} (h : n ≤ 6) : bsN p n < 64 :=
  Nat.lt_of_lt_of_le (bs_lt p n) (Nat.pow_le_pow_right (by omega) h)
theorem bs_congr {p q : Nat → Bool} {n : Nat} (h : ∀ k, k < n → p k = q k) : bsN p n = bsN q n := by
  refine Nat.eq_of_testBit_eq (fun i => ?_)
  rw [bs_bit, bs_bit]
  by_cases hi : i < n
  · rw [h i hi]
  · rw [decide_eq_false hi, Bool.false_and, Bool.false_and]
theorem t_orp : ∀ a, a < 64 → ∀ k, k < 6 → nI a ||| ((1 : Int32) <<< (nI k &&& 31)) = nI (a ||| 2 ^ k) := by decide +kernel
theorem orb_bs (p : Nat → Bool) : ∀ n, n ≤ 6 → orb (fun k => if p k = true then 1 else 0) n = nI (bsN p n) := by
  intro n
  induction n with
  | zero => intro _; rfl
  | succ n ih =>
    intro h
    show orb _ n ||| ((if p n = true then (1 : Int32) else 0) <<< (nI n &&& 31)) = nI (bsN p n ||| (if p n = true then 2 ^ n else 0))
    rw [ih (by omega)]
    by_cases hp : p n = true
    · rw [if_pos hp, if_pos hp]; exact t_orp _ (bs_lt64 p (by omega)) n (by omega)
    · rw [if_neg hp, if_neg hp, sh0, or0, Nat.or_zero]
theorem t_sub : ∀ a, a < 64 → ∀ b, b < 64 → ((nI a &&& (nI b ^^^ ((-1)))) = 0 ↔ ∀ i, i < 6 → a.testBit i = true → b.testBit i = true) := by decide +kernel
theorem t_has : ∀ a, a < 64 → ∀ i, i < 6 → ((nI a >>> (nI i &&& 31)) &&& 1) = if a.testBit i = true then 1 else 0 := by decide +kernel
theorem t_and : ∀ a, a < 64 → ∀ b, b < 64 → nI a &&& nI b = nI (a &&& b) := by decide +kernel
/-- a set that is asked for: words below the gate's -/
theorem areW {α : Type} (v : Mm) (h : 0 ≤ (v 6 0 6).toInt ∧ (v 6 0 6).toInt ≤ 6) (a : Int32) (A B : Option α) : Option.bind (g_X7_areWords v a) (fun r => if r = 0 then A else B) = if 0 ≤ a.toInt ∧ a.toInt < ((1 : Int32) <<< ((v 6 0 6) &&& 31)).toInt then B else A := by
  unfold g_X7_areWords
  rw [rngx]
  by_cases q : 0 ≤ a.toInt ∧ a.toInt < ((1 : Int32) <<< ((v 6 0 6) &&& 31)).toInt
  · rw [if_pos q, if_pos q]; exact bind1 A B
  · rw [if_neg q, if_neg q]; exact bind0 A B
theorem areM {α : Type} (v : Mm) (h : 0 ≤ (v 36 0 3).toInt ∧ (v 36 0 3).toInt ≤ 6) (a : Int32) (A B : Option α) : Option.bind (g_X8_areWords v a) (fun r => if r = 0 then A else B) = if 0 ≤ a.toInt ∧ a.toInt < ((1 : Int32) <<< ((v 36 0 3) &&& 31)).toInt then B else A := by
  have e0 : (0 : Int32).toInt = 0 := by decide
  have e1 : (1 : Int32).toInt = 1 := by decide
  have s7 := sp_shl7 (b := v 36 0 3) h.1 (by omega)
  unfold g_X8_areWords
  rw [bm_in, tc_3]
  have s := sp_subx ((1 : Int32) <<< ((v 36 0 3) &&& 31)) 1 (by omega)
  by_cases q : 0 ≤ a.toInt ∧ a.toInt < ((1 : Int32) <<< ((v 36 0 3) &&& 31)).toInt
  · rw [if_pos (by omega), if_pos q]
  · rw [if_neg (by omega), if_neg q]
theorem t_pow : ∀ k, k < 7 → ((1 : Int32) <<< (nI k &&& 31)).toInt = ((2 ^ k : Nat) : Int) := by decide +kernel
/-- words of some that get in -/
def SFB (v : Mm) (hour d : Int32) : Nat → Bool := fun k => decide (CT v (nI k) hour d = 0)
theorem SFE_bs (v : Mm) (h : 0 ≤ (v 6 0 6).toInt ∧ (v 6 0 6).toInt ≤ 6) (hour d : Int32) : SFE v hour d = nI (bsN (SFB v hour d) (Int32.toNatClampNeg (v 6 0 6))) := by
  have c := tcn (v 6 0 6)
  unfold SFE
  rw [← orb_bs _ _ (by omega)]
  refine orb_congr _ (fun k _ => ?_)
  unfold SFB
  by_cases q : CT v (nI k) hour d = 0
  · rw [if_pos q, if_pos (decide_eq_true q)]
  · rw [if_neg q, if_neg (fun z => q (of_decide_eq_true z))]
/-- all of some words get in at an hour -/
def OPB (v : Mm) (a : Nat) (hour d : Int32) : Bool := allB (fun w => !(a.testBit w) || SFB v hour d w) (Int32.toNatClampNeg (v 6 0 6))
theorem sub_open {v : Mm} (h : 0 ≤ (v 6 0 6).toInt ∧ (v 6 0 6).toInt ≤ 6) {a : Nat} (ha : a < 2 ^ Int32.toNatClampNeg (v 6 0 6)) (hour d : Int32) : (nI a &&& (SFE v hour d ^^^ ((-1)))) = 0 ↔ OPB v a hour d = true := by
  have c := tcn (v 6 0 6)
  have h6 : Int32.toNatClampNeg (v 6 0 6) ≤ 6 := by omega
  have ha64 : a < 64 := Nat.lt_of_lt_of_le ha (Nat.pow_le_pow_right (by omega) h6)
  rw [SFE_bs v h, t_sub a ha64 _ (bs_lt64 _ h6)]
  unfold OPB
  rw [allB_iff]
  refine ⟨fun q k hk => ?_, fun q i hi hb => ?_⟩
  · cases hb : a.testBit k with
    | false => rfl
    | true =>
      have z := q k (by omega) hb
      rw [bs_bit, decide_eq_true hk, Bool.true_and] at z
      rw [z]; rfl
  · by_cases hk : i < Int32.toNatClampNeg (v 6 0 6)
    · have z := q i hk
      rw [hb, Bool.not_true, Bool.false_or] at z
      rw [bs_bit, decide_eq_true hk, Bool.true_and]; exact z
    · have := Nat.testBit_lt_two_pow (Nat.lt_of_lt_of_le ha (Nat.pow_le_pow_right (by omega) (Nat.not_lt.mp hk)))
      rw [this] at hb
      cases hb
theorem x_open {vx vm : Mm} (hR : RG5 vx) (h : RSt vx 0 vm 36 0) {a : Nat} (ha : a < 2 ^ Int32.toNatClampNeg (vx 6 0 6)) {d : Int32} (hd : 0 ≤ d.toInt ∧ d.toInt ≤ 60) : pk (g_X2_hoursOpen vx 0 (nI a) d) (fun r => r = orb (fun k => if OPB vx a (nI k) d = true then 1 else 0) 6) := by
  have e1 : (1 : Int32).toInt = 1 := by decide
  have e6 : (6 : Int32).toInt = 6 := by decide
  have w6 : 0 ≤ (vx 6 0 6).toInt ∧ (vx 6 0 6).toInt ≤ 6 := by have := hR.1; omega
  have loop : ∀ (n : Nat) (y x : Int32) (k : Nat), x.toInt = (k : Int) → k ≤ 6 → y = orb (fun k => if OPB vx a (nI k) d = true then 1 else 0) k → pk (g_X2_hoursOpen_L5 vx 0 (nI a) d n y x) (fun r => r = orb (fun k => if OPB vx a (nI k) d = true then 1 else 0) 6) := by
    intro n
    induction n with
    | zero => intro y x k _ _ _ b e; cases e
    | succ n ih =>
      intro y x k hx hk hy
      show pk (b_X2_hoursOpen_L5 (g_X2_hoursOpen_L5 vx 0 (nI a) d n) vx 0 (nI a) d y x) _
      unfold b_X2_hoursOpen_L5
      refine pk_ite _ (fun c => ?_) (fun c => ?_)
      · have := i_le c
        obtain rfl : k = 6 := by omega
        exact pk_some hy
      · have := i_nle c
        have ex := sp_addx x 1 (by omega)
        have hx' := nI_ofk hx
        refine pk_bind (x_words hR h (hour := x) ⟨by omega, by omega⟩ hd) (fun r er => ?_)
        rw [q_bit (Or.inr rfl), q_bit (Or.inl rfl), Option.bind_some, Option.bind_some, er]
        have hs := sub_open w6 ha x d
        refine pk_ite _ (fun c2 => ?_) (fun c2 => ?_)
        · refine ih _ (x + 1) (k + 1) (by omega) (by omega) ?_
          show _ = orb _ k ||| ((if OPB vx a (nI k) d = true then (1 : Int32) else 0) <<< (nI k &&& 31))
          rw [← hx', if_pos (hs.mp c2), hy]
        · refine ih _ (x + 1) (k + 1) (by omega) (by omega) ?_
          show _ = orb _ k ||| ((if OPB vx a (nI k) d = true then (1 : Int32) else 0) <<< (nI k &&& 31))
          rw [← hx', if_neg (fun z => c2 (hs.mpr z)), hy]
  unfold g_X2_hoursOpen
  exact loop 2000 0 0 0 (by decide) (by omega) rfl
/-- one word's fate as the reference asks it -/
theorem m_areIn {vx vm : Mm} (hR : RG5 vx) (h : GB vx vm) {a : Nat} (ha : a < 64) {hour d : Int32} (hh : 0 ≤ hour.toInt ∧ hour.toInt < 6) (hd : 0 ≤ d.toInt ∧ d.toInt ≤ 60) : pk (g_X8_areIn vm (nI a) hour d (vm 36 0 6)) (fun r => r = if OPB vx a hour d = true then 1 else 0) := by
  have e1 : (1 : Int32).toInt = 1 := by decide
  have ew : vx 6 0 6 = vm 36 0 3 := h.1.2.2.1
  have e4 : vx 6 0 7 = vm 36 0 4 := h.1.2.2.2.1
  have e5 : vx 10 0 4 = vm 36 0 5 := h.2.1.2.1
  have e6 : vx 10 0 6 = vm 36 0 6 := h.2.1.2.2.1
  have cw := tcn (vx 6 0 6)
  obtain ⟨w6, g7, n9, -, -⟩ := id hR
  have s := sp_addx (vx 10 0 4) d (by omega)
  have s2 := sp_addx (vx 10 0 4 + d) hour (by omega)
  have hs := SEC_rg hR hd
  have csec := tcn (SEC vx d)
  have one : ∀ k : Nat, k < Int32.toNatClampNeg (vx 6 0 6) → pk (g_X8_isTaken vm (nI k) hour (vx 10 0 4 + d) (vm 36 0 6) (SEC vx d)) (fun r => r = CT vx (nI k) hour d) := by
    intro k hk
    have nk := nI_toInt (n := k) (by omega)
    have ck : Int32.toNatClampNeg (nI k) = k := by rw [tcn, nk]; omega
    refine (p_isTaken vm (nI k) hour (vx 10 0 4 + d) (vm 36 0 6) (SEC vx d) (by omega) (by omega) (by rw [← e4]; exact g7) (by omega)).mono (fun r er => ?_)
    rw [er, cat_eq h.1 w6.2 g7 (by rw [ck]; omega) (by omega) (by omega), ← e6]
    rfl
  have loop : ∀ (n : Nat) (x is y : Int32) (k : Nat), x = vx 10 0 4 + d → y.toInt = (k : Int) → k ≤ Int32.toNatClampNeg (vx 6 0 6) → is = (if allB (fun w => !(a.testBit w) || SFB vx hour d w) k = true then 1 else 0) → pk (g_X8_areIn_L16 vm (nI a) hour d (vm 36 0 6) n x is y) (fun r => r = if OPB vx a hour d = true then 1 else 0) := by
    intro n
    induction n with
    | zero => intro x is y k _ _ _ _ b e; cases e
    | succ n ih =>
      intro x is y k ex hy hk his
      show pk (b_X8_areIn_L16 (g_X8_areIn_L16 vm (nI a) hour d (vm 36 0 6) n) vm (nI a) hour d (vm 36 0 6) x is y) _
      unfold b_X8_areIn_L16
      rw [tc_3, ← ew]
      refine pk_ite _ (fun c => ?_) (fun c => ?_)
      · have := i_le c
        obtain rfl : k = Int32.toNatClampNeg (vx 6 0 6) := by omega
        exact pk_some his
      · have := i_nle c
        have ey := sp_addx y 1 (by omega)
        have hy' := nI_ofk hy
        have stp : ∀ b : Bool, (!(a.testBit k) || SFB vx hour d k) = b → allB (fun w => !(a.testBit w) || SFB vx hour d w) (k + 1) = (allB (fun w => !(a.testBit w) || SFB vx hour d w) k && b) := fun b hb => by rw [← hb]; rfl
        by_cases hall : allB (fun w => !(a.testBit w) || SFB vx hour d w) k = true
        · rw [if_pos hall] at his
          rw [his, if_neg (by decide), hy', q_has, t_has a ha k (by omega), Option.bind_some]
          by_cases hb : a.testBit k = true
          · rw [if_pos hb, if_neg (by decide)]
            refine pk_bind (q_secretOf vm x) (fun r9 er9 => ?_)
            rw [h.scr, ex] at er9
            have er9 : r9 = SEC vx d := er9
            rw [er9, ex]
            refine pk_bind (one k (by omega)) (fun r12 er12 => ?_)
            rw [er12]
            have sf : SFB vx hour d k = decide (CT vx (nI k) hour d = 0) := rfl
            refine pk_ite _ (fun c2 => ?_) (fun c2 => ?_)
            · refine ih _ 1 (nI k + 1) (k + 1) rfl (by rw [← hy']; omega) (by omega) ?_
              rw [stp true (by rw [sf, decide_eq_true c2, Bool.or_true]), hall]; rfl
            · refine ih _ 0 (nI k + 1) (k + 1) rfl (by rw [← hy']; omega) (by omega) ?_
              rw [stp false (by rw [sf, decide_eq_false c2, hb]; rfl), hall]; rfl
          · rw [if_neg hb, if_pos rfl]
            have hb' : a.testBit k = false := by
              cases z : a.testBit k with
              | false => rfl
              | true => exact absurd z hb
            refine ih x 1 (nI k + 1) (k + 1) ex (by rw [← hy']; omega) (by omega) ?_
            rw [stp true (by rw [hb']; rfl), hall]; rfl
        · rw [if_neg hall] at his
          have hall' : allB (fun w => !(a.testBit w) || SFB vx hour d w) k = false := by
            cases z : allB (fun w => !(a.testBit w) || SFB vx hour d w) k with
            | false => rfl
            | true => exact absurd z hall
          rw [his, if_pos rfl]
          refine ih x 0 (y + 1) (k + 1) ex (by omega) (by omega) ?_
          rw [stp _ rfl, hall', Bool.false_and]; rfl
  unfold g_X8_areIn
  rw [tc_5, ← e5, Option.bind_some]
  exact loop 2000 _ 1 0 0 rfl (by decide) (by omega) rfl
theorem a_open {vx vm : Mm} (hJ : J2 vx vm) (a1 a2 : Int32) : rel (g_X7_open vx a1 a2) (g_X8_open vm a1 a2) (fun x y => x = y) := by
  have hS := hJ.2.1.1
  have e0 : (0 : Int32).toInt = 0 := by decide
  have e1 : (1 : Int32).toInt = 1 := by decide
  have e6 : (6 : Int32).toInt = 6 := by decide
  have hw : (0 : Int) ≤ (vx 6 0 6).toInt ∧ (vx 6 0 6).toInt ≤ (6 : Int) := hJ.1.1 6 0 6
  have ew : vx 6 0 6 = vm 36 0 3 := hS.2.2.1
  unfold g_X7_open g_X8_open
  rw [bx_nog, bm_isg vm (by rw [← ew]; exact hw.1), areW vx hw, areM vm (by rw [← ew]; exact hw), bx_far, bm_far, ← ew]
  refine rel_ite Iff.rfl (fun _ => rel_some rfl) (fun c0 => ?_)
  have c0' := i_ne c0
  refine rel_ite Iff.rfl (fun c1 => ?_) (fun _ => rel_some rfl)
  refine rel_ite Iff.rfl (fun c2 => ?_) (fun _ => rel_some rfl)
  have hR := RG5.of hJ.1.1 hJ.1.2.1 hS (by omega)
  have cw := tcn (vx 6 0 6)
  obtain ⟨k, hk, ek⟩ := i_of (n := 7) hw.1 (by omega)
  have ck : Int32.toNatClampNeg (vx 6 0 6) = k := by
    have := nI_toInt (n := k) (by omega)
    rw [ek, tcn, this]; omega
  have tp := t_pow k hk
  have p64 : 2 ^ k ≤ 2 ^ 6 := Nat.pow_le_pow_right (by omega) (by omega)
  rw [ek, tp] at c1
  obtain ⟨a, ha, ea⟩ := i_of (n := 2 ^ k) c1.1 c1.2
  rw [ea]
  have ha64 : a < 64 := Nat.lt_of_lt_of_le ha p64
  refine rel_bindL (x_open hR hS (by rw [ck]; exact ha) c2) (fun r er => rel_someL ?_)
  rw [er]
  have loop : ∀ (n : Nat) (y x : Int32) (k : Nat), x.toInt = (k : Int) → k ≤ 6 → y = orb (fun k => if OPB vx a (nI k) a2 = true then 1 else 0) k → pk (g_X8_open_L33 vm (nI a) a2 n y x) (fun r => orb (fun k => if OPB vx a (nI k) a2 = true then 1 else 0) 6 = r) := by
    intro n
    induction n with
    | zero => intro y x k _ _ _ b e; cases e
    | succ n ih =>
      intro y x k hx hk hy
      show pk (b_X8_open_L33 (g_X8_open_L33 vm (nI a) a2 n) vm (nI a) a2 y x) _
      unfold b_X8_open_L33
      rw [tc_6]
      refine pk_ite _ (fun c => ?_) (fun c => ?_)
      · have := i_le c
        obtain rfl : k = 6 := by omega
        exact pk_some hy.symm
      · have := i_nle c
        have ex := sp_addx x 1 (by omega)
        have hx' := nI_ofk hx
        refine pk_bind (m_areIn hR hJ.2.1 ha64 (hour := x) ⟨by omega, by omega⟩ c2) (fun r er => ?_)
        rw [er]
        by_cases q : OPB vx a x a2 = true
        · rw [if_pos q, if_neg (by decide), Option.bind_some]
          refine ih _ (x + 1) (k + 1) (by omega) (by omega) ?_
          show _ = orb _ k ||| ((if OPB vx a (nI k) a2 = true then (1 : Int32) else 0) <<< (nI k &&& 31))
          rw [← hx', if_pos q, hy]
        · rw [if_neg q, if_pos rfl]
          refine ih _ (x + 1) (k + 1) (by omega) (by omega) ?_
          show _ = orb _ k ||| ((if OPB vx a (nI k) a2 = true then (1 : Int32) else 0) <<< (nI k &&& 31))
          rw [← hx', if_neg q, sh0, hy]
  exact loop 2000 0 0 0 (by decide) (by omega) rfl
