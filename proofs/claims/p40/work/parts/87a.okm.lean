set_option maxHeartbeats 4000000 in
theorem k_X8_in (v : Mm) (hI_v : IM v) (a0 : Int32) (a1 : Int32) (a2 : Int32) : ok (g_X8_in v a0 a1 a2) (fun z => (0 : Int) ≤ Int32.toInt z ∧ Int32.toInt z ≤ (1 : Int) ∧ (Int32.toInt z = 0 ∨ (Int32.toInt a1 ≤ Int32.toInt a0 ∧ Int32.toInt a0 ≤ Int32.toInt a2))) := by
  unfold g_X8_in
  refine ok_ite _ (fun c1 => ?_) (fun c1 => ?_)
  · skip
    have ic1 := i_lt c1
    refine ok_some ?_
    show (0 : Int) ≤ Int32.toInt (0 : Int32) ∧ Int32.toInt (0 : Int32) ≤ (1 : Int) ∧ (Int32.toInt (0 : Int32) = 0 ∨ (Int32.toInt a1 ≤ Int32.toInt a0 ∧ Int32.toInt a0 ≤ Int32.toInt a2))
    have : (0 : Int32).toInt = 0 := (by decide)
    omega
  · skip
    have ic1 := i_nlt c1
    refine ok_ite _ (fun c2 => ?_) (fun c2 => ?_)
    · skip
      have ic2 := i_lt c2
      refine ok_some ?_
      show (0 : Int) ≤ Int32.toInt (0 : Int32) ∧ Int32.toInt (0 : Int32) ≤ (1 : Int) ∧ (Int32.toInt (0 : Int32) = 0 ∨ (Int32.toInt a1 ≤ Int32.toInt a0 ∧ Int32.toInt a0 ≤ Int32.toInt a2))
      have : (0 : Int32).toInt = 0 := (by decide)
      omega
    · skip
      have ic2 := i_nlt c2
      refine ok_some ?_
      show (0 : Int) ≤ Int32.toInt (1 : Int32) ∧ Int32.toInt (1 : Int32) ≤ (1 : Int) ∧ (Int32.toInt (1 : Int32) = 0 ∨ (Int32.toInt a1 ≤ Int32.toInt a0 ∧ Int32.toInt a0 ≤ Int32.toInt a2))
      have : (1 : Int32).toInt = 1 := (by decide)
      omega
set_option maxHeartbeats 4000000 in
theorem k_X8_has (v : Mm) (hI_v : IM v) (a0 : Int32) (a1 : Int32) : ok (g_X8_has v a0 a1) (fun z => (0 : Int) ≤ Int32.toInt z ∧ Int32.toInt z ≤ (1 : Int)) := by
  unfold g_X8_has
  refine ok_ite _ (fun c1 => ?_) (fun c1 => ?_)
  · skip
    have ic1 := i_eq c1
    have : (1 : Int32).toInt = 1 := (by decide)
    (try have := sp_andl (a := (a0 >>> (a1 &&& 31))) (b := (1 : Int32)) (by omega) (by omega))
    (try have := sp_and64 (a := (a0 >>> (a1 &&& 31))) (b := (1 : Int32)) (by omega) (by omega) (by omega) (by omega))
    refine ok_some ?_
    show (0 : Int) ≤ Int32.toInt (1 : Int32) ∧ Int32.toInt (1 : Int32) ≤ (1 : Int)
    have : (1 : Int32).toInt = 1 := (by decide)
    omega
  · skip
    have ic1 := i_ne c1
    have : (1 : Int32).toInt = 1 := (by decide)
    (try have := sp_andl (a := (a0 >>> (a1 &&& 31))) (b := (1 : Int32)) (by omega) (by omega))
    (try have := sp_and64 (a := (a0 >>> (a1 &&& 31))) (b := (1 : Int32)) (by omega) (by omega) (by omega) (by omega))
    refine ok_some ?_
    show (0 : Int) ≤ Int32.toInt (0 : Int32) ∧ Int32.toInt (0 : Int32) ≤ (1 : Int)
    have : (0 : Int32).toInt = 0 := (by decide)
    omega
def onesF (a : Int32) : Int32 := (List.range 8).foldl (fun s k => s + ((a >>> (nI k &&& 31)) &&& 1)) 0
theorem ones_L (v : Mm) (a : Int32) : ∀ (n : Nat) (k : Nat) (s : Int32), k ≤ 8 → 8 < k + n → g_X8_ones_L4 v a n s (nI k) = some ((List.range' k (8 - k)).foldl (fun s k => s + ((a >>> (nI k &&& 31)) &&& 1)) s) := by
  intro n
  induction n with
  | zero => intro k s h1 h2; exfalso; omega
  | succ n ih =>
    intro k s h1 h2
    show b_X8_ones_L4 (g_X8_ones_L4 v a n) v a s (nI k) = _
    unfold b_X8_ones_L4
    have e8 : (8 : Int32).toInt = 8 := by decide
    by_cases q : k = 8
    · subst q
      rw [if_pos (by decide)]
      rfl
    · rw [if_neg (fun h => q (by have := i_le h; rw [nI_toInt (by omega)] at this; omega))]
      show g_X8_ones_L4 v a n (s + ((a >>> (nI k &&& 31)) &&& 1)) (nI k + 1) = _
      rw [show nI k + 1 = nI (k + 1) from nI_add k 1, ih (k + 1) _ (by omega) (by omega), show 8 - k = (8 - (k + 1)) + 1 by omega, List.range'_succ]
      rfl
theorem ones_eq (v : Mm) (a : Int32) : g_X8_ones v a = some (onesF a) := by
  unfold g_X8_ones onesF
  rw [List.range_eq_range']
  exact ones_L v a 2000 0 0 (by omega) (by omega)
theorem onesF_rg : ∀ j, j < 64 → 0 ≤ (onesF (nI j)).toInt ∧ (onesF (nI j)).toInt ≤ 6 ∧ (j = 0 ∨ 0 < (onesF (nI j)).toInt) := by decide +kernel
theorem k_X8_ones (v : Mm) (hI_v : IM v) (a0 : Int32) (h_a0 : (0 : Int) ≤ a0.toInt ∧ a0.toInt ≤ (63 : Int)) : ok (g_X8_ones v a0) (fun z => (0 : Int) ≤ Int32.toInt z ∧ Int32.toInt z ≤ (6 : Int) ∧ (Int32.toInt a0 = 0 ∨ 0 < Int32.toInt z)) := by
  obtain ⟨j, hj, rfl⟩ := i_of (n := 64) h_a0.1 (by omega)
  refine ⟨_, ones_eq v (nI j), ?_⟩
  have := onesF_rg j hj
  rw [nI_toInt (n := j) (by omega)]
  refine ⟨this.1, this.2.1, ?_⟩
  rcases this.2.2 with h | h
  · left; omega
  · right; exact h
set_option maxHeartbeats 4000000 in
theorem k_X8_found (v : Mm) (hI_v : IM v) (a1 : Int32) : ok (g_X8_found v a1) (fun z => IM z.2) := by
  unfold g_X8_found
  refine ok_let (fun v1 ev1 => ?_)
  have hI_v1 : IM v1 := by rw [ev1]; exact hI_v.upo (by decide) (by have h9 := i_bd a1; exact ⟨h9.1, Int.le_of_lt_add_one h9.2⟩)
  have := i_eq (show v1 30 0 4 = a1 by rw [ev1]; exact up3_s)
  refine ok_some ?_
  show IM v1
  have : (-1000010 : Int32).toInt = -1000010 := (by decide)
  have := i_bd a1
  (first | have := sp_subx (-1000010 : Int32) a1 (by omega) | obtain ⟨k1, hk1⟩ := sp_sub (-1000010 : Int32) a1)
  exact hI_v1
set_option maxHeartbeats 4000000 in
theorem k_X8_well (v : Mm) (hI_v : IM v) (a1 : Int32) : ok (g_X8_well v a1) (fun z => IM z.2) := by
  unfold g_X8_well
  refine ok_let (fun v1 ev1 => ?_)
  have hI_v1 : IM v1 := by rw [ev1]; exact hI_v.upo (by decide) (by have h9 := i_bd (0 : Int32); exact ⟨h9.1, Int.le_of_lt_add_one h9.2⟩)
  have := i_eq (show v1 30 0 4 = 0 by rw [ev1]; exact up3_s)
  have : (0 : Int32).toInt = 0 := (by decide)
  refine ok_some ?_
  show IM v1
  exact hI_v1
theorem c_X8_copies_37_36 (v : Mm) (a1 a3 : Int32) (s d : Nat) (h1 : a1.toInt = (s : Int)) (h3 : a3.toInt = (d : Int)) (hs : s + 65 ≤ 65) (hd : d + 65 ≤ 65) : ok (g_X8_copies_37_36 v a1 a3) (fun w => CPY v w 37 s 36 d 65) := by
  have e65 : (65 : Int32).toInt = 65 := by decide
  have e1 : (1 : Int32).toInt = 1 := by decide
  have loop : ∀ (n : Nat) (w : Mm) (x : Int32) (k : Nat), x.toInt = (k : Int) → k ≤ 65 → 65 < k + n → CPY v w 37 s 36 d k → ok (g_X8_copies_37_36_L3 a1 a3 n w x) (fun w => CPY v w 37 s 36 d 65) := by
    intro n
    induction n with
    | zero => intro w x k hx hk hn hc; exfalso; omega
    | succ n ih =>
      intro w x k hx hk hn hc
      show ok (b_X8_copies_37_36_L3 (g_X8_copies_37_36_L3 a1 a3 n) a1 a3 w x) _
      unfold b_X8_copies_37_36_L3
      refine ok_ite _ (fun c => ?_) (fun c => ?_)
      · have i1 := i_le c
        obtain rfl : k = 65 := by omega
        exact ok_some hc
      · have i1 := i_nle c
        obtain ⟨q1, hq1⟩ := sp_add a1 x
        obtain ⟨q3, hq3⟩ := sp_add a3 x
        obtain ⟨q, hq⟩ := sp_add x 1
        have f1 : Int32.toNatClampNeg (a1 + x) = s + k := by rw [tcn]; omega
        have f3 : Int32.toNatClampNeg (a3 + x) = d + k := by rw [tcn]; omega
        refine ok_grd _ (gr (by omega) (by omega)) ?_
        refine ok_grd _ (gr (by omega) (by omega)) ?_
        refine ok_let (fun w1 ew1 => ?_)
        rw [f1, f3] at ew1
        exact ih w1 (x + 1) (k + 1) (by omega) (by omega) (by omega) (hc.step ew1 (by decide))
  unfold g_X8_copies_37_36
  exact loop 2000 v 0 0 (by decide) (by omega) (by omega) ⟨fun j h => absurd h (by omega), fun t i j _ => rfl⟩
theorem k_X8_copies_37_36 (v : Mm) (hI_v : IM v) (a1 : Int32) (a3 : Int32) (hx0 : Int32.toInt a1 = 0) (hx1 : Int32.toInt a3 = 0) (hx2 : (Int32.toInt (v 37 0 3) = 0 ∧ Int32.toInt (v 37 0 4) = 0) ∨ (0 < Int32.toInt (v 37 0 3) ∧ 0 < Int32.toInt (v 37 0 4))) : ok (g_X8_copies_37_36 v a1 a3) (fun z => IM z) :=
  (c_X8_copies_37_36 v a1 a3 0 0 hx0 hx1 (by omega) (by omega)).mono (fun w hc => hc.to36 hI_v (by decide) (fun j _ => by rw [Nat.zero_add]; rfl) hx2)
theorem c_X8_copies_36_39 (v : Mm) (a1 a3 : Int32) (s d : Nat) (h1 : a1.toInt = (s : Int)) (h3 : a3.toInt = (d : Int)) (hs : s + 65 ≤ 65) (hd : d + 65 ≤ 1560) : ok (g_X8_copies_36_39 v a1 a3) (fun w => CPY v w 36 s 39 d 65) := by
  have e65 : (65 : Int32).toInt = 65 := by decide
  have e1 : (1 : Int32).toInt = 1 := by decide
  have loop : ∀ (n : Nat) (w : Mm) (x : Int32) (k : Nat), x.toInt = (k : Int) → k ≤ 65 → 65 < k + n → CPY v w 36 s 39 d k → ok (g_X8_copies_36_39_L3 a1 a3 n w x) (fun w => CPY v w 36 s 39 d 65) := by
    intro n
    induction n with
    | zero => intro w x k hx hk hn hc; exfalso; omega
    | succ n ih =>
      intro w x k hx hk hn hc
      show ok (b_X8_copies_36_39_L3 (g_X8_copies_36_39_L3 a1 a3 n) a1 a3 w x) _
      unfold b_X8_copies_36_39_L3
      refine ok_ite _ (fun c => ?_) (fun c => ?_)
      · have i1 := i_le c
        obtain rfl : k = 65 := by omega
        exact ok_some hc
      · have i1 := i_nle c
        obtain ⟨q1, hq1⟩ := sp_add a1 x
        obtain ⟨q3, hq3⟩ := sp_add a3 x
        obtain ⟨q, hq⟩ := sp_add x 1
        have f1 : Int32.toNatClampNeg (a1 + x) = s + k := by rw [tcn]; omega
        have f3 : Int32.toNatClampNeg (a3 + x) = d + k := by rw [tcn]; omega
        refine ok_grd _ (gr (by omega) (by omega)) ?_
        refine ok_grd _ (gr (by omega) (by omega)) ?_
        refine ok_let (fun w1 ew1 => ?_)
        rw [f1, f3] at ew1
        exact ih w1 (x + 1) (k + 1) (by omega) (by omega) (by omega) (hc.step ew1 (by decide))
  unfold g_X8_copies_36_39
  exact loop 2000 v 0 0 (by decide) (by omega) (by omega) ⟨fun j h => absurd h (by omega), fun t i j _ => rfl⟩
theorem k_X8_copies_36_39 (v : Mm) (hI_v : IM v) (a1 : Int32) (a3 : Int32) (hx0 : Int32.toInt a1 = 0) (hx1 : 0 ≤ Int32.toInt a3) (hx2 : Int32.toInt a3 ≤ 1495) (hx3 : Int32.toInt a3 % 65 = 0) : ok (g_X8_copies_36_39 v a1 a3) (fun z => IM z ∧ (∀ t i j, ¬ t = 39 → z t i j = v t i j)) := by
  obtain ⟨s, hs⟩ : ∃ s : Nat, Int32.toInt a3 = ((65 * s : Nat) : Int) := ⟨(Int32.toInt a3 / 65).toNat, by omega⟩
  exact (c_X8_copies_36_39 v a1 a3 0 (65 * s) hx0 hs (by omega) (by omega)).mono (fun w hc => ⟨hc.of36 hI_v (Or.inl rfl), fun t i j h => hc.2 t i j (fun q => h q.1)⟩)
theorem c_X8_copies_39_36 (v : Mm) (a1 a3 : Int32) (s d : Nat) (h1 : a1.toInt = (s : Int)) (h3 : a3.toInt = (d : Int)) (hs : s + 65 ≤ 1560) (hd : d + 65 ≤ 65) : ok (g_X8_copies_39_36 v a1 a3) (fun w => CPY v w 39 s 36 d 65) := by
  have e65 : (65 : Int32).toInt = 65 := by decide
  have e1 : (1 : Int32).toInt = 1 := by decide
  have loop : ∀ (n : Nat) (w : Mm) (x : Int32) (k : Nat), x.toInt = (k : Int) → k ≤ 65 → 65 < k + n → CPY v w 39 s 36 d k → ok (g_X8_copies_39_36_L3 a1 a3 n w x) (fun w => CPY v w 39 s 36 d 65) := by
    intro n
    induction n with
    | zero => intro w x k hx hk hn hc; exfalso; omega
    | succ n ih =>
      intro w x k hx hk hn hc
      show ok (b_X8_copies_39_36_L3 (g_X8_copies_39_36_L3 a1 a3 n) a1 a3 w x) _
      unfold b_X8_copies_39_36_L3
      refine ok_ite _ (fun c => ?_) (fun c => ?_)
      · have i1 := i_le c
        obtain rfl : k = 65 := by omega
        exact ok_some hc
      · have i1 := i_nle c
        obtain ⟨q1, hq1⟩ := sp_add a1 x
        obtain ⟨q3, hq3⟩ := sp_add a3 x
        obtain ⟨q, hq⟩ := sp_add x 1
        have f1 : Int32.toNatClampNeg (a1 + x) = s + k := by rw [tcn]; omega
        have f3 : Int32.toNatClampNeg (a3 + x) = d + k := by rw [tcn]; omega
        refine ok_grd _ (gr (by omega) (by omega)) ?_
        refine ok_grd _ (gr (by omega) (by omega)) ?_
        refine ok_let (fun w1 ew1 => ?_)
        rw [f1, f3] at ew1
        exact ih w1 (x + 1) (k + 1) (by omega) (by omega) (by omega) (hc.step ew1 (by decide))
  unfold g_X8_copies_39_36
  exact loop 2000 v 0 0 (by decide) (by omega) (by omega) ⟨fun j h => absurd h (by omega), fun t i j _ => rfl⟩
theorem k_X8_copies_39_36 (v : Mm) (hI_v : IM v) (a1 : Int32) (a3 : Int32) (hx0 : Int32.toInt a3 = 0) (hx1 : 0 ≤ Int32.toInt a1) (hx2 : Int32.toInt a1 ≤ 1495) (hx3 : Int32.toInt a1 % 65 = 0) : ok (g_X8_copies_39_36 v a1 a3) (fun z => IM z) := by
  obtain ⟨s, hs⟩ : ∃ s : Nat, Int32.toInt a1 = ((65 * s : Nat) : Int) := ⟨(Int32.toInt a1 / 65).toNat, by omega⟩
  exact (c_X8_copies_39_36 v a1 a3 (65 * s) 0 hs hx0 (by omega) (by omega)).mono (fun w hc => hc.to36 hI_v (by decide) (fun j hj => rgM_sl 39 s j (Or.inl rfl) hj) (hI_v.2.2.1 s (by omega)))
theorem c_X8_copies_36_40 (v : Mm) (a1 a3 : Int32) (s d : Nat) (h1 : a1.toInt = (s : Int)) (h3 : a3.toInt = (d : Int)) (hs : s + 65 ≤ 65) (hd : d + 65 ≤ 130) : ok (g_X8_copies_36_40 v a1 a3) (fun w => CPY v w 36 s 40 d 65) := by
  have e65 : (65 : Int32).toInt = 65 := by decide
  have e1 : (1 : Int32).toInt = 1 := by decide
  have loop : ∀ (n : Nat) (w : Mm) (x : Int32) (k : Nat), x.toInt = (k : Int) → k ≤ 65 → 65 < k + n → CPY v w 36 s 40 d k → ok (g_X8_copies_36_40_L3 a1 a3 n w x) (fun w => CPY v w 36 s 40 d 65) := by
    intro n
    induction n with
    | zero => intro w x k hx hk hn hc; exfalso; omega
    | succ n ih =>
      intro w x k hx hk hn hc
      show ok (b_X8_copies_36_40_L3 (g_X8_copies_36_40_L3 a1 a3 n) a1 a3 w x) _
      unfold b_X8_copies_36_40_L3
      refine ok_ite _ (fun c => ?_) (fun c => ?_)
      · have i1 := i_le c
        obtain rfl : k = 65 := by omega
        exact ok_some hc
      · have i1 := i_nle c
        obtain ⟨q1, hq1⟩ := sp_add a1 x
        obtain ⟨q3, hq3⟩ := sp_add a3 x
        obtain ⟨q, hq⟩ := sp_add x 1
        have f1 : Int32.toNatClampNeg (a1 + x) = s + k := by rw [tcn]; omega
        have f3 : Int32.toNatClampNeg (a3 + x) = d + k := by rw [tcn]; omega
        refine ok_grd _ (gr (by omega) (by omega)) ?_
        refine ok_grd _ (gr (by omega) (by omega)) ?_
        refine ok_let (fun w1 ew1 => ?_)
        rw [f1, f3] at ew1
        exact ih w1 (x + 1) (k + 1) (by omega) (by omega) (by omega) (hc.step ew1 (by decide))
  unfold g_X8_copies_36_40
  exact loop 2000 v 0 0 (by decide) (by omega) (by omega) ⟨fun j h => absurd h (by omega), fun t i j _ => rfl⟩
theorem k_X8_copies_36_40 (v : Mm) (hI_v : IM v) (a1 : Int32) (a3 : Int32) (hx0 : Int32.toInt a1 = 0) (hx1 : Int32.toInt a3 = 0 ∨ Int32.toInt a3 = 65) : ok (g_X8_copies_36_40 v a1 a3) (fun z => IM z) := by
  obtain ⟨s, hs⟩ : ∃ s : Nat, Int32.toInt a3 = ((65 * s : Nat) : Int) := ⟨(Int32.toInt a3 / 65).toNat, by omega⟩
  exact (c_X8_copies_36_40 v a1 a3 0 (65 * s) hx0 hs (by omega) (by omega)).mono (fun w hc => hc.of36 hI_v (Or.inr rfl))
theorem c_X8_copies_40_36 (v : Mm) (a1 a3 : Int32) (s d : Nat) (h1 : a1.toInt = (s : Int)) (h3 : a3.toInt = (d : Int)) (hs : s + 65 ≤ 130) (hd : d + 65 ≤ 65) : ok (g_X8_copies_40_36 v a1 a3) (fun w => CPY v w 40 s 36 d 65) := by
  have e65 : (65 : Int32).toInt = 65 := by decide
  have e1 : (1 : Int32).toInt = 1 := by decide
  have loop : ∀ (n : Nat) (w : Mm) (x : Int32) (k : Nat), x.toInt = (k : Int) → k ≤ 65 → 65 < k + n → CPY v w 40 s 36 d k → ok (g_X8_copies_40_36_L3 a1 a3 n w x) (fun w => CPY v w 40 s 36 d 65) := by
    intro n
    induction n with
    | zero => intro w x k hx hk hn hc; exfalso; omega
    | succ n ih =>
      intro w x k hx hk hn hc
      show ok (b_X8_copies_40_36_L3 (g_X8_copies_40_36_L3 a1 a3 n) a1 a3 w x) _
      unfold b_X8_copies_40_36_L3
      refine ok_ite _ (fun c => ?_) (fun c => ?_)
      · have i1 := i_le c
        obtain rfl : k = 65 := by omega
        exact ok_some hc
      · have i1 := i_nle c
        obtain ⟨q1, hq1⟩ := sp_add a1 x
        obtain ⟨q3, hq3⟩ := sp_add a3 x
        obtain ⟨q, hq⟩ := sp_add x 1
        have f1 : Int32.toNatClampNeg (a1 + x) = s + k := by rw [tcn]; omega
        have f3 : Int32.toNatClampNeg (a3 + x) = d + k := by rw [tcn]; omega
        refine ok_grd _ (gr (by omega) (by omega)) ?_
        refine ok_grd _ (gr (by omega) (by omega)) ?_
        refine ok_let (fun w1 ew1 => ?_)
        rw [f1, f3] at ew1
        exact ih w1 (x + 1) (k + 1) (by omega) (by omega) (by omega) (hc.step ew1 (by decide))
  unfold g_X8_copies_40_36
  exact loop 2000 v 0 0 (by decide) (by omega) (by omega) ⟨fun j h => absurd h (by omega), fun t i j _ => rfl⟩
theorem k_X8_copies_40_36 (v : Mm) (hI_v : IM v) (a1 : Int32) (a3 : Int32) (hx0 : Int32.toInt a3 = 0) (hx1 : Int32.toInt a1 = 0 ∨ Int32.toInt a1 = 65) : ok (g_X8_copies_40_36 v a1 a3) (fun z => IM z) := by
  obtain ⟨s, hs⟩ : ∃ s : Nat, Int32.toInt a1 = ((65 * s : Nat) : Int) := ⟨(Int32.toInt a1 / 65).toNat, by omega⟩
  exact (c_X8_copies_40_36 v a1 a3 (65 * s) 0 hs hx0 (by omega) (by omega)).mono (fun w hc => hc.to36 hI_v (by decide) (fun j hj => rgM_sl 40 s j (Or.inr rfl) hj) (hI_v.2.2.2 s (by omega)))
theorem c_X8_copies_36_38 (v : Mm) (a1 a3 : Int32) (s d : Nat) (h1 : a1.toInt = (s : Int)) (h3 : a3.toInt = (d : Int)) (hs : s + 65 ≤ 65) (hd : d + 65 ≤ 65) : ok (g_X8_copies_36_38 v a1 a3) (fun w => CPY v w 36 s 38 d 65) := by
  have e65 : (65 : Int32).toInt = 65 := by decide
  have e1 : (1 : Int32).toInt = 1 := by decide
  have loop : ∀ (n : Nat) (w : Mm) (x : Int32) (k : Nat), x.toInt = (k : Int) → k ≤ 65 → 65 < k + n → CPY v w 36 s 38 d k → ok (g_X8_copies_36_38_L3 a1 a3 n w x) (fun w => CPY v w 36 s 38 d 65) := by
    intro n
    induction n with
    | zero => intro w x k hx hk hn hc; exfalso; omega
    | succ n ih =>
      intro w x k hx hk hn hc
      show ok (b_X8_copies_36_38_L3 (g_X8_copies_36_38_L3 a1 a3 n) a1 a3 w x) _
      unfold b_X8_copies_36_38_L3
      refine ok_ite _ (fun c => ?_) (fun c => ?_)
      · have i1 := i_le c
        obtain rfl : k = 65 := by omega
        exact ok_some hc
      · have i1 := i_nle c
        obtain ⟨q1, hq1⟩ := sp_add a1 x
        obtain ⟨q3, hq3⟩ := sp_add a3 x
        obtain ⟨q, hq⟩ := sp_add x 1
        have f1 : Int32.toNatClampNeg (a1 + x) = s + k := by rw [tcn]; omega
        have f3 : Int32.toNatClampNeg (a3 + x) = d + k := by rw [tcn]; omega
        refine ok_grd _ (gr (by omega) (by omega)) ?_
        refine ok_grd _ (gr (by omega) (by omega)) ?_
        refine ok_let (fun w1 ew1 => ?_)
        rw [f1, f3] at ew1
        exact ih w1 (x + 1) (k + 1) (by omega) (by omega) (by omega) (hc.step ew1 (by decide))
  unfold g_X8_copies_36_38
  exact loop 2000 v 0 0 (by decide) (by omega) (by omega) ⟨fun j h => absurd h (by omega), fun t i j _ => rfl⟩
theorem k_X8_copies_36_38 (v : Mm) (hI_v : IM v) (a1 : Int32) (a3 : Int32) (hx0 : Int32.toInt a1 = 0) (hx1 : Int32.toInt a3 = 0) : ok (g_X8_copies_36_38 v a1 a3) (fun z => IM z ∧ (Int32.toInt (z 38 0 3) = Int32.toInt (v 36 0 3)) ∧ (Int32.toInt (z 36 0 3) = Int32.toInt (v 36 0 3))) :=
  (c_X8_copies_36_38 v a1 a3 0 0 hx0 hx1 (by omega) (by omega)).mono (fun w hc => ⟨hc.of38 hI_v, congrArg _ (hc.1 3 (by omega)), congrArg _ (hc.2 36 0 3 (fun q => absurd q.1 (by decide)))⟩)
set_option maxHeartbeats 4000000 in
theorem k_X8_isRow (v : Mm) (hI_v : IM v) (a0 : Int32) : ok (g_X8_isRow v a0) (fun z => (0 : Int) ≤ Int32.toInt z ∧ Int32.toInt z ≤ (1 : Int) ∧ ((Int32.toInt z = 0 ∨ (0 ≤ Int32.toInt a0 ∧ Int32.toInt a0 ≤ 7)))) := by
  unfold g_X8_isRow
  refine ok_bind (k_X8_in v hI_v a0 0 7 ) (fun r2 hr2 => ?_)
  replace hr2 : (0 : Int) ≤ Int32.toInt r2 ∧ Int32.toInt r2 ≤ (1 : Int) ∧ (Int32.toInt r2 = 0 ∨ (Int32.toInt 0 ≤ Int32.toInt a0 ∧ Int32.toInt a0 ≤ Int32.toInt 7)) := hr2
  obtain ⟨hr2_lo, hr2_hi, hr2_p0⟩ := hr2
  have : (0 : Int32).toInt = 0 := (by decide)
  have : (7 : Int32).toInt = 7 := (by decide)
  refine ok_some ?_
  show (0 : Int) ≤ Int32.toInt r2 ∧ Int32.toInt r2 ≤ (1 : Int) ∧ ((Int32.toInt r2 = 0 ∨ (0 ≤ Int32.toInt a0 ∧ Int32.toInt a0 ≤ 7)))
  omega
set_option maxHeartbeats 4000000 in
theorem k_X8_isMissing (v : Mm) (hI_v : IM v) (a1 : Int32) (h_a1 : (0 : Int) ≤ a1.toInt ∧ a1.toInt ≤ (7 : Int)) : ok (g_X8_isMissing v a1) (fun z => (0 : Int) ≤ Int32.toInt z ∧ Int32.toInt z ≤ (1 : Int)) := by
  unfold g_X8_isMissing
  refine ok_grd _ ?_ ?_
  · skip
    exact gr (by omega) (by omega)
  refine ok_ite _ (fun c2 => ?_) (fun c2 => ?_)
  · skip
    have ic2 := i_eq c2
    have : (-1000000 : Int32).toInt = -1000000 := (by decide)
    refine ok_some ?_
    show (0 : Int) ≤ Int32.toInt (1 : Int32) ∧ Int32.toInt (1 : Int32) ≤ (1 : Int)
    have : (1 : Int32).toInt = 1 := (by decide)
    omega
  · skip
    have ic2 := i_ne c2
    have : (-1000000 : Int32).toInt = -1000000 := (by decide)
    refine ok_some ?_
    show (0 : Int) ≤ Int32.toInt (0 : Int32) ∧ Int32.toInt (0 : Int32) ≤ (1 : Int)
    have : (0 : Int32).toInt = 0 := (by decide)
    omega
set_option maxHeartbeats 4000000 in
theorem k_X8_cut (v : Mm) (hI_v : IM v) (a0 : Int32) (a1 : Int32) : ok (g_X8_cut v a0 a1) (fun z => True) := by
  unfold g_X8_cut
  refine ok_ite _ (fun c1 => ?_) (fun c1 => ?_)
  · skip
    have ic1 := i_eq c1
    have : (0 : Int32).toInt = 0 := (by decide)
    refine ok_some ?_
    show True
    trivial
  · skip
    have ic1 := i_ne c1
    have : (0 : Int32).toInt = 0 := (by decide)
    refine ok_ite _ (fun c2 => ?_) (fun c2 => ?_)
    · skip
      have ic2 := i_eq c2
      have : (1 : Int32).toInt = 1 := (by decide)
      refine ok_some ?_
      show True
      trivial
    · skip
      have ic2 := i_ne c2
      have : (1 : Int32).toInt = 1 := (by decide)
      refine ok_some ?_
      show True
      trivial
set_option maxHeartbeats 4000000 in
theorem k_X8_row (v : Mm) (hI_v : IM v) (a1 : Int32) (a2 : Int32) (a3 : Int32) : ok (g_X8_row v a1 a2 a3) (fun z => IM z.2) := by
  have loop52 : ∀ (n52 : Nat) (w52 : Mm) (x4_52 : Int32), (IM w52) → ((0 : Int) ≤ Int32.toInt x4_52 ∧ Int32.toInt x4_52 ≤ (40 : Int)) → (0 ≤ Int32.toInt a1 ∧ Int32.toInt a1 ≤ 7) → (40 - Int32.toInt x4_52 < (n52 : Int)) → ok (g_X8_row_L52  a1 a2 a3 n52 w52 x4_52) (fun z => IM z.2) := by
    intro n52
    induction n52 with
    | zero =>
      intro w52 x4_52 hI_w52 hv0_52 hv1_52 hm52
      exfalso
      omega
    | succ n52 ih52 =>
      intro w52 x4_52 hI_w52 hv0_52 hv1_52 hm52
      show ok (b_X8_row_L52  (g_X8_row_L52  a1 a2 a3 n52) a1 a2 a3 w52 x4_52) _
      unfold b_X8_row_L52
      refine ok_ite _ (fun c1 => ?_) (fun c1 => ?_)
      · skip
        have ic1 := i_le c1
        have : (40 : Int32).toInt = 40 := (by decide)
        refine ok_kb2 (k_X8_well w52 hI_w52 a3 ) (fun r3 v4 hr3 => ?_)
        replace hr3 : IM v4 := hr3
        have hI_v4 := hr3
        clear hr3
        refine ok_some ?_
        show IM v4
        exact hI_v4
      · skip
        have ic1 := i_nle c1
        have : (40 : Int32).toInt = 40 := (by decide)
        refine ok_grd _ ?_ ?_
        · skip
          have : (40 : Int32).toInt = 40 := (by decide)
          (first | have := sp_cmulx (40 : Int32) a1 40 (by decide) (by omega) | obtain ⟨k1, hk1⟩ := sp_cmul (40 : Int32) a1 40 (by decide))
          have := i_bd x4_52
          (first | have := sp_addx ((40 : Int32) * a1) x4_52 (by omega) | obtain ⟨k2, hk2⟩ := sp_add ((40 : Int32) * a1) x4_52)
          exact gr (by omega) (by omega)
        refine ok_let (fun v6 ev6 => ?_)
        have : (40 : Int32).toInt = 40 := (by decide)
        (first | have := sp_cmulx (40 : Int32) a1 40 (by decide) (by omega) | obtain ⟨k3, hk3⟩ := sp_cmul (40 : Int32) a1 40 (by decide))
        have := i_bd x4_52
        (first | have := sp_addx ((40 : Int32) * a1) x4_52 (by omega) | obtain ⟨k4, hk4⟩ := sp_add ((40 : Int32) * a1) x4_52)
        have hI_v6 : IM v6 := by rw [ev6]; exact hI_w52.upo (by decide) (by have h9 := i_bd (0 : Int32); exact ⟨h9.1, Int.le_of_lt_add_one h9.2⟩)
        have : (1 : Int32).toInt = 1 := (by decide)
        have := i_bd x4_52
        (first | have := sp_addx x4_52 (1 : Int32) (by omega) | obtain ⟨k5, hk5⟩ := sp_add x4_52 (1 : Int32))
        exact ih52 v6 (x4_52 + 1) hI_v6 (by omega) (by omega) (by omega)
  unfold g_X8_row
  refine ok_bind (k_X8_isRow v hI_v a1 ) (fun r8 hr8 => ?_)
  replace hr8 : (0 : Int) ≤ Int32.toInt r8 ∧ Int32.toInt r8 ≤ (1 : Int) ∧ ((Int32.toInt r8 = 0 ∨ (0 ≤ Int32.toInt a1 ∧ Int32.toInt a1 ≤ 7))) := hr8
  obtain ⟨hr8_lo, hr8_hi, hr8_p0⟩ := hr8
  refine ok_ite _ (fun c10 => ?_) (fun c10 => ?_)
  · skip
    have ic10 := i_eq c10
    try clear hr8_p0
    have : (0 : Int32).toInt = 0 := (by decide)
    refine ok_some ?_
    show IM v
    have : (-1000001 : Int32).toInt = -1000001 := (by decide)
    exact hI_v
  · skip
    have ic10 : Int32.toInt r8 = 1 := one_of hr8_lo hr8_hi c10
    try replace hr8_p0 : (0 ≤ Int32.toInt a1 ∧ Int32.toInt a1 ≤ 7) := orr hr8_p0 ic10
    have : (0 : Int32).toInt = 0 := (by decide)
    refine ok_bind (k_X8_in v hI_v a2 0 2 ) (fun r12 hr12 => ?_)
    replace hr12 : (0 : Int) ≤ Int32.toInt r12 ∧ Int32.toInt r12 ≤ (1 : Int) ∧ (Int32.toInt r12 = 0 ∨ (Int32.toInt 0 ≤ Int32.toInt a2 ∧ Int32.toInt a2 ≤ Int32.toInt 2)) := hr12
    obtain ⟨hr12_lo, hr12_hi, hr12_p0⟩ := hr12
    have : (0 : Int32).toInt = 0 := (by decide)
    have : (2 : Int32).toInt = 2 := (by decide)
    refine ok_ite _ (fun c14 => ?_) (fun c14 => ?_)
    · skip
      have ic14 := i_eq c14
      try clear hr12_p0
      have : (0 : Int32).toInt = 0 := (by decide)
      refine ok_some ?_
      show IM v
      have : (-1000001 : Int32).toInt = -1000001 := (by decide)
      exact hI_v
    · skip
      have ic14 : Int32.toInt r12 = 1 := one_of hr12_lo hr12_hi c14
      try replace hr12_p0 : (Int32.toInt 0 ≤ Int32.toInt a2 ∧ Int32.toInt a2 ≤ Int32.toInt 2) := orr hr12_p0 ic14
      have : (0 : Int32).toInt = 0 := (by decide)
      refine ok_ite _ (fun c15 => ?_) (fun c15 => ?_)
      · skip
        have ic15 := i_le c15
        have : (40 : Int32).toInt = 40 := (by decide)
        refine ok_ite _ (fun c16 => ?_) (fun c16 => ?_)
        · skip
          have ic16 := i_le c16
          have : (0 : Int32).toInt = 0 := (by decide)
          refine ok_grd _ ?_ ?_
          · skip
            exact gr (by omega) (by omega)
          refine ok_let (fun v18 ev18 => ?_)
          have hI_v18 : IM v18 := by rw [ev18]; exact hI_v.upo (by decide) (by have h9 := i_bd a2; exact ⟨h9.1, Int.le_of_lt_add_one h9.2⟩)
          refine ok_grd _ ?_ ?_
          · skip
            exact gr (by omega) (by omega)
          refine ok_let (fun v20 ev20 => ?_)
          have hI_v20 : IM v20 := by
            rw [ev20]
            refine hI_v18.upo (by decide) ?_
            show (0 : Int) ≤ Int32.toInt a3 ∧ Int32.toInt a3 ≤ (40 : Int)
            omega
          have : (0 : Int32).toInt = 0 := (by decide)
          exact loop52 2000 v20 0 hI_v20 (by omega) (by omega) (by omega)
        · skip
          have ic16 := i_nle c16
          have : (0 : Int32).toInt = 0 := (by decide)
          refine ok_kb2 (k_X8_found v hI_v 4 ) (fun r22 v23 hr22 => ?_)
          replace hr22 : IM v23 := hr22
          have hI_v23 := hr22
          clear hr22
          refine ok_some ?_
          show IM v23
          exact hI_v23
      · skip
        have ic15 := i_nle c15
        have : (40 : Int32).toInt = 40 := (by decide)
        refine ok_some ?_
        show IM v
        have : (-1000001 : Int32).toInt = -1000001 := (by decide)
        exact hI_v
set_option maxHeartbeats 4000000 in
theorem k_X8_set (v : Mm) (hI_v : IM v) (a1 : Int32) (a2 : Int32) (a3 : Int32) : ok (g_X8_set v a1 a2 a3) (fun z => IM z.2) := by
  unfold g_X8_set
  refine ok_bind (k_X8_isRow v hI_v a1 ) (fun r2 hr2 => ?_)
  replace hr2 : (0 : Int) ≤ Int32.toInt r2 ∧ Int32.toInt r2 ≤ (1 : Int) ∧ ((Int32.toInt r2 = 0 ∨ (0 ≤ Int32.toInt a1 ∧ Int32.toInt a1 ≤ 7))) := hr2
  obtain ⟨hr2_lo, hr2_hi, hr2_p0⟩ := hr2
  refine ok_ite _ (fun c4 => ?_) (fun c4 => ?_)
  · skip
    have ic4 := i_eq c4
    try clear hr2_p0
    have : (0 : Int32).toInt = 0 := (by decide)
    refine ok_some ?_
    show IM v
    have : (-1000001 : Int32).toInt = -1000001 := (by decide)
    exact hI_v
  · skip
    have ic4 : Int32.toInt r2 = 1 := one_of hr2_lo hr2_hi c4
    try replace hr2_p0 : (0 ≤ Int32.toInt a1 ∧ Int32.toInt a1 ≤ 7) := orr hr2_p0 ic4
    have : (0 : Int32).toInt = 0 := (by decide)
    refine ok_bind (k_X8_isMissing v hI_v a1 (by omega)) (fun r6 hr6 => ?_)
    replace hr6 : (0 : Int) ≤ Int32.toInt r6 ∧ Int32.toInt r6 ≤ (1 : Int) := hr6
    obtain ⟨hr6_lo, hr6_hi⟩ := hr6
    refine ok_ite _ (fun c8 => ?_) (fun c8 => ?_)
    · skip
      have ic8 := i_eq c8
      have : (0 : Int32).toInt = 0 := (by decide)
      refine ok_grd _ ?_ ?_
      · skip
        exact gr (by omega) (by omega)
      refine ok_bind (k_X8_in v hI_v a2 0 ((v 32 0 (Int32.toNatClampNeg a1)) - 1) ) (fun r11 hr11 => ?_)
      replace hr11 : (0 : Int) ≤ Int32.toInt r11 ∧ Int32.toInt r11 ≤ (1 : Int) ∧ (Int32.toInt r11 = 0 ∨ (Int32.toInt 0 ≤ Int32.toInt a2 ∧ Int32.toInt a2 ≤ Int32.toInt ((v 32 0 (Int32.toNatClampNeg a1)) - 1))) := hr11
      obtain ⟨hr11_lo, hr11_hi, hr11_p0⟩ := hr11
      have : (0 : Int32).toInt = 0 := (by decide)
      have : (0 : Int) ≤ (v 32 0 (Int32.toNatClampNeg a1)).toInt ∧ (v 32 0 (Int32.toNatClampNeg a1)).toInt ≤ (40 : Int) := hI_v.1 32 0 (Int32.toNatClampNeg a1)
      have : (1 : Int32).toInt = 1 := (by decide)
      have := i_bd (v 32 0 (Int32.toNatClampNeg a1))
      (first | have := sp_subx (v 32 0 (Int32.toNatClampNeg a1)) (1 : Int32) (by omega) | obtain ⟨k1, hk1⟩ := sp_sub (v 32 0 (Int32.toNatClampNeg a1)) (1 : Int32))
      refine ok_ite _ (fun c13 => ?_) (fun c13 => ?_)
      · skip
        have ic13 := i_eq c13
        try clear hr11_p0
        have : (0 : Int32).toInt = 0 := (by decide)
        refine ok_kb2 (k_X8_found v hI_v 2 ) (fun r15 v16 hr15 => ?_)
        replace hr15 : IM v16 := hr15
        have hI_v16 := hr15
        clear hr15
        refine ok_some ?_
        show IM v16
        exact hI_v16
      · skip
        have ic13 : Int32.toInt r11 = 1 := one_of hr11_lo hr11_hi c13
        try replace hr11_p0 : (Int32.toInt 0 ≤ Int32.toInt a2 ∧ Int32.toInt a2 ≤ Int32.toInt ((v 32 0 (Int32.toNatClampNeg a1)) - 1)) := orr hr11_p0 ic13
        have : (0 : Int32).toInt = 0 := (by decide)
        refine ok_grd _ ?_ ?_
        · skip
          exact gr (by omega) (by omega)
        refine ok_bind (k_X8_cut v hI_v (v 31 0 (Int32.toNatClampNeg a1)) a3 ) (fun r19 hr19 => ?_)
        clear hr19
        refine ok_grd _ ?_ ?_
        · skip
          have : (40 : Int32).toInt = 40 := (by decide)
          (first | have := sp_cmulx (40 : Int32) a1 40 (by decide) (by omega) | obtain ⟨k2, hk2⟩ := sp_cmul (40 : Int32) a1 40 (by decide))
          have := i_bd a2
          (first | have := sp_addx ((40 : Int32) * a1) a2 (by omega) | obtain ⟨k3, hk3⟩ := sp_add ((40 : Int32) * a1) a2)
          exact gr (by omega) (by omega)
        refine ok_let (fun v22 ev22 => ?_)
        have : (40 : Int32).toInt = 40 := (by decide)
        (first | have := sp_cmulx (40 : Int32) a1 40 (by decide) (by omega) | obtain ⟨k4, hk4⟩ := sp_cmul (40 : Int32) a1 40 (by decide))
        have := i_bd a2
        (first | have := sp_addx ((40 : Int32) * a1) a2 (by omega) | obtain ⟨k5, hk5⟩ := sp_add ((40 : Int32) * a1) a2)
        have hI_v22 : IM v22 := by rw [ev22]; exact hI_v.upo (by decide) (by have h9 := i_bd r19; exact ⟨h9.1, Int.le_of_lt_add_one h9.2⟩)
        refine ok_grd _ ?_ ?_
        · skip
          have : (40 : Int32).toInt = 40 := (by decide)
          (first | have := sp_cmulx (40 : Int32) a1 40 (by decide) (by omega) | obtain ⟨k6, hk6⟩ := sp_cmul (40 : Int32) a1 40 (by decide))
          have := i_bd a2
          (first | have := sp_addx ((40 : Int32) * a1) a2 (by omega) | obtain ⟨k7, hk7⟩ := sp_add ((40 : Int32) * a1) a2)
          exact gr (by omega) (by omega)
        refine ok_kb2 (k_X8_well v22 hI_v22 (v22 33 0 (Int32.toNatClampNeg (((40 : Int32) * a1) + a2))) ) (fun r25 v26 hr25 => ?_)
        replace hr25 : IM v26 := hr25
        have hI_v26 := hr25
        clear hr25
        refine ok_some ?_
        show IM v26
        exact hI_v26
    · skip
      have ic8 : Int32.toInt r6 = 1 := one_of hr6_lo hr6_hi c8
      have : (0 : Int32).toInt = 0 := (by decide)
      refine ok_kb2 (k_X8_found v hI_v 1 ) (fun r28 v29 hr28 => ?_)
      replace hr28 : IM v29 := hr28
      have hI_v29 := hr28
      clear hr28
      refine ok_some ?_
      show IM v29
      exact hI_v29
set_option maxHeartbeats 4000000 in
theorem k_X8_isPart (v : Mm) (hI_v : IM v) (a1 : Int32) (a2 : Int32) (a3 : Int32) (h_a1 : (0 : Int) ≤ a1.toInt ∧ a1.toInt ≤ (7 : Int)) : ok (g_X8_isPart v a1 a2 a3) (fun z => (0 : Int) ≤ Int32.toInt z ∧ Int32.toInt z ≤ (1 : Int) ∧ (Int32.toInt z = 0 ∨ (0 ≤ Int32.toInt a2 ∧ 0 ≤ Int32.toInt a3 ∧ Int32.toInt a2 + Int32.toInt a3 ≤ 40))) := by
  unfold g_X8_isPart
  refine ok_ite _ (fun c1 => ?_) (fun c1 => ?_)
  · skip
    have ic1 := i_lt c1
    have : (0 : Int32).toInt = 0 := (by decide)
    refine ok_some ?_
    show (0 : Int) ≤ Int32.toInt (0 : Int32) ∧ Int32.toInt (0 : Int32) ≤ (1 : Int) ∧ (Int32.toInt (0 : Int32) = 0 ∨ (0 ≤ Int32.toInt a2 ∧ 0 ≤ Int32.toInt a3 ∧ Int32.toInt a2 + Int32.toInt a3 ≤ 40))
    have : (0 : Int32).toInt = 0 := (by decide)
    omega
  · skip
    have ic1 := i_nlt c1
    have : (0 : Int32).toInt = 0 := (by decide)
    refine ok_ite _ (fun c2 => ?_) (fun c2 => ?_)
    · skip
      have ic2 := i_lt c2
      have : (0 : Int32).toInt = 0 := (by decide)
      refine ok_some ?_
      show (0 : Int) ≤ Int32.toInt (0 : Int32) ∧ Int32.toInt (0 : Int32) ≤ (1 : Int) ∧ (Int32.toInt (0 : Int32) = 0 ∨ (0 ≤ Int32.toInt a2 ∧ 0 ≤ Int32.toInt a3 ∧ Int32.toInt a2 + Int32.toInt a3 ≤ 40))
      have : (0 : Int32).toInt = 0 := (by decide)
      omega
    · skip
      have ic2 := i_nlt c2
      have : (0 : Int32).toInt = 0 := (by decide)
      refine ok_grd _ ?_ ?_
      · skip
        exact gr (by omega) (by omega)
      refine ok_ite _ (fun c4 => ?_) (fun c4 => ?_)
      · skip
        have ic4 := i_lt c4
        have : (0 : Int) ≤ (v 32 0 (Int32.toNatClampNeg a1)).toInt ∧ (v 32 0 (Int32.toNatClampNeg a1)).toInt ≤ (40 : Int) := hI_v.1 32 0 (Int32.toNatClampNeg a1)
        refine ok_some ?_
        show (0 : Int) ≤ Int32.toInt (0 : Int32) ∧ Int32.toInt (0 : Int32) ≤ (1 : Int) ∧ (Int32.toInt (0 : Int32) = 0 ∨ (0 ≤ Int32.toInt a2 ∧ 0 ≤ Int32.toInt a3 ∧ Int32.toInt a2 + Int32.toInt a3 ≤ 40))
        have : (0 : Int32).toInt = 0 := (by decide)
        omega
      · skip
        have ic4 := i_nlt c4
        have : (0 : Int) ≤ (v 32 0 (Int32.toNatClampNeg a1)).toInt ∧ (v 32 0 (Int32.toNatClampNeg a1)).toInt ≤ (40 : Int) := hI_v.1 32 0 (Int32.toNatClampNeg a1)
        refine ok_grd _ ?_ ?_
        · skip
          exact gr (by omega) (by omega)
        refine ok_ite _ (fun c6 => ?_) (fun c6 => ?_)
        · skip
          have ic6 := i_lt c6
          have : (0 : Int) ≤ (v 32 0 (Int32.toNatClampNeg a1)).toInt ∧ (v 32 0 (Int32.toNatClampNeg a1)).toInt ≤ (40 : Int) := hI_v.1 32 0 (Int32.toNatClampNeg a1)
          have := i_bd (v 32 0 (Int32.toNatClampNeg a1))
          have := i_bd a2
          (first | have := sp_subx (v 32 0 (Int32.toNatClampNeg a1)) a2 (by omega) | obtain ⟨k1, hk1⟩ := sp_sub (v 32 0 (Int32.toNatClampNeg a1)) a2)
          refine ok_some ?_
          show (0 : Int) ≤ Int32.toInt (0 : Int32) ∧ Int32.toInt (0 : Int32) ≤ (1 : Int) ∧ (Int32.toInt (0 : Int32) = 0 ∨ (0 ≤ Int32.toInt a2 ∧ 0 ≤ Int32.toInt a3 ∧ Int32.toInt a2 + Int32.toInt a3 ≤ 40))
          have : (0 : Int32).toInt = 0 := (by decide)
          omega
        · skip
          have ic6 := i_nlt c6
          have : (0 : Int) ≤ (v 32 0 (Int32.toNatClampNeg a1)).toInt ∧ (v 32 0 (Int32.toNatClampNeg a1)).toInt ≤ (40 : Int) := hI_v.1 32 0 (Int32.toNatClampNeg a1)
          have := i_bd (v 32 0 (Int32.toNatClampNeg a1))
          have := i_bd a2
          (first | have := sp_subx (v 32 0 (Int32.toNatClampNeg a1)) a2 (by omega) | obtain ⟨k2, hk2⟩ := sp_sub (v 32 0 (Int32.toNatClampNeg a1)) a2)
          refine ok_some ?_
          show (0 : Int) ≤ Int32.toInt (1 : Int32) ∧ Int32.toInt (1 : Int32) ≤ (1 : Int) ∧ (Int32.toInt (1 : Int32) = 0 ∨ (0 ≤ Int32.toInt a2 ∧ 0 ≤ Int32.toInt a3 ∧ Int32.toInt a2 + Int32.toInt a3 ≤ 40))
          have : (1 : Int32).toInt = 1 := (by decide)
          omega
set_option maxHeartbeats 4000000 in
theorem k_X8_copy (v : Mm) (hI_v : IM v) (a1 : Int32) (a2 : Int32) (a3 : Int32) (a4 : Int32) (a5 : Int32) : ok (g_X8_copy v a1 a2 a3 a4 a5) (fun z => IM z.2) := by
  have loop129 : ∀ (n129 : Nat) (w129 : Mm) (x6_129 : Int32), (IM w129) → ((0 : Int) ≤ Int32.toInt x6_129 ∧ Int32.toInt x6_129 ≤ (40 : Int)) → (0 ≤ Int32.toInt a1 ∧ Int32.toInt a1 ≤ 7) → (0 ≤ Int32.toInt a2) → (Int32.toInt a2 + Int32.toInt a5 ≤ 40) → (0 ≤ Int32.toInt a3 ∧ Int32.toInt a3 ≤ 7) → (0 ≤ Int32.toInt a4) → (Int32.toInt a4 + Int32.toInt a5 ≤ 40) → (40 - Int32.toInt x6_129 < (n129 : Int)) → ok (g_X8_copy_L129  a1 a2 a3 a4 a5 n129 w129 x6_129) (fun z => IM z.2) := by
    intro n129
    induction n129 with
    | zero =>
      intro w129 x6_129 hI_w129 hv0_129 hv1_129 hv2_129 hv3_129 hv4_129 hv5_129 hv6_129 hm129
      exfalso
      omega
    | succ n129 ih129 =>
      intro w129 x6_129 hI_w129 hv0_129 hv1_129 hv2_129 hv3_129 hv4_129 hv5_129 hv6_129 hm129
      show ok (b_X8_copy_L129  (g_X8_copy_L129  a1 a2 a3 a4 a5 n129) a1 a2 a3 a4 a5 w129 x6_129) _
      unfold b_X8_copy_L129
      refine ok_ite _ (fun c1 => ?_) (fun c1 => ?_)
      · skip
        have ic1 := i_le c1
        refine ok_kb2 (k_X8_well w129 hI_w129 a5 ) (fun r3 v4 hr3 => ?_)
        replace hr3 : IM v4 := hr3
        have hI_v4 := hr3
        clear hr3
        refine ok_some ?_
        show IM v4
        exact hI_v4
      · skip
        have ic1 := i_nle c1
        refine ok_grd _ ?_ ?_
        · skip
          exact gr (by omega) (by omega)
        refine ok_grd _ ?_ ?_
        · skip
          have : (40 : Int32).toInt = 40 := (by decide)
          (first | have := sp_cmulx (40 : Int32) a3 40 (by decide) (by omega) | obtain ⟨k1, hk1⟩ := sp_cmul (40 : Int32) a3 40 (by decide))
          have := i_bd a4
          (first | have := sp_addx ((40 : Int32) * a3) a4 (by omega) | obtain ⟨k2, hk2⟩ := sp_add ((40 : Int32) * a3) a4)
          have := i_bd x6_129
          (first | have := sp_addx (((40 : Int32) * a3) + a4) x6_129 (by omega) | obtain ⟨k3, hk3⟩ := sp_add (((40 : Int32) * a3) + a4) x6_129)
          exact gr (by omega) (by omega)
        refine ok_let (fun v7 ev7 => ?_)
        have : (40 : Int32).toInt = 40 := (by decide)
        (first | have := sp_cmulx (40 : Int32) a3 40 (by decide) (by omega) | obtain ⟨k4, hk4⟩ := sp_cmul (40 : Int32) a3 40 (by decide))
        have := i_bd a4
        (first | have := sp_addx ((40 : Int32) * a3) a4 (by omega) | obtain ⟨k5, hk5⟩ := sp_add ((40 : Int32) * a3) a4)
        have := i_bd x6_129
        (first | have := sp_addx (((40 : Int32) * a3) + a4) x6_129 (by omega) | obtain ⟨k6, hk6⟩ := sp_add (((40 : Int32) * a3) + a4) x6_129)
        have hI_v7 : IM v7 := by rw [ev7]; exact hI_w129.upo (by decide) (by have h9 := i_bd (w129 34 0 (Int32.toNatClampNeg x6_129)); exact ⟨h9.1, Int.le_of_lt_add_one h9.2⟩)
        have : (1 : Int32).toInt = 1 := (by decide)
        have := i_bd x6_129
        (first | have := sp_addx x6_129 (1 : Int32) (by omega) | obtain ⟨k7, hk7⟩ := sp_add x6_129 (1 : Int32))
        exact ih129 v7 (x6_129 + 1) hI_v7 (by omega) (by omega) (by omega) (by omega) (by omega) (by omega) (by omega) (by omega)
  have loop92 : ∀ (n92 : Nat) (w92 : Mm) (x6_92 : Int32), (IM w92) → ((0 : Int) ≤ Int32.toInt x6_92 ∧ Int32.toInt x6_92 ≤ (40 : Int)) → (0 ≤ Int32.toInt a1 ∧ Int32.toInt a1 ≤ 7) → (0 ≤ Int32.toInt a2) → (Int32.toInt a2 + Int32.toInt a5 ≤ 40) → (0 ≤ Int32.toInt a3 ∧ Int32.toInt a3 ≤ 7) → (0 ≤ Int32.toInt a4) → (Int32.toInt a4 + Int32.toInt a5 ≤ 40) → (40 - Int32.toInt x6_92 < (n92 : Int)) → ok (g_X8_copy_L92  a1 a2 a3 a4 a5 n92 w92 x6_92) (fun z => IM z.2) := by
    intro n92
    induction n92 with
    | zero =>
      intro w92 x6_92 hI_w92 hv0_92 hv1_92 hv2_92 hv3_92 hv4_92 hv5_92 hv6_92 hm92
      exfalso
      omega
    | succ n92 ih92 =>
      intro w92 x6_92 hI_w92 hv0_92 hv1_92 hv2_92 hv3_92 hv4_92 hv5_92 hv6_92 hm92
      show ok (b_X8_copy_L92  (g_X8_copy_L92  a1 a2 a3 a4 a5 n92) a1 a2 a3 a4 a5 w92 x6_92) _
      unfold b_X8_copy_L92
      refine ok_ite _ (fun c8 => ?_) (fun c8 => ?_)
      · skip
        have ic8 := i_le c8
        have : (0 : Int32).toInt = 0 := (by decide)
        exact loop129 2000 w92 0 hI_w92 (by omega) (by omega) (by omega) (by omega) (by omega) (by omega) (by omega) (by omega)
      · skip
        have ic8 := i_nle c8
        refine ok_grd _ ?_ ?_
        · skip
          have : (40 : Int32).toInt = 40 := (by decide)
          (first | have := sp_cmulx (40 : Int32) a1 40 (by decide) (by omega) | obtain ⟨k8, hk8⟩ := sp_cmul (40 : Int32) a1 40 (by decide))
          have := i_bd a2
          (first | have := sp_addx ((40 : Int32) * a1) a2 (by omega) | obtain ⟨k9, hk9⟩ := sp_add ((40 : Int32) * a1) a2)
          have := i_bd x6_92
          (first | have := sp_addx (((40 : Int32) * a1) + a2) x6_92 (by omega) | obtain ⟨k10, hk10⟩ := sp_add (((40 : Int32) * a1) + a2) x6_92)
          exact gr (by omega) (by omega)
        refine ok_grd _ ?_ ?_
        · skip
          exact gr (by omega) (by omega)
        refine ok_let (fun v11 ev11 => ?_)
        have hI_v11 : IM v11 := by rw [ev11]; exact hI_w92.upo (by decide) (by have h9 := i_bd (w92 33 0 (Int32.toNatClampNeg ((((40 : Int32) * a1) + a2) + x6_92))); exact ⟨h9.1, Int.le_of_lt_add_one h9.2⟩)
        have : (1 : Int32).toInt = 1 := (by decide)
        have := i_bd x6_92
        (first | have := sp_addx x6_92 (1 : Int32) (by omega) | obtain ⟨k11, hk11⟩ := sp_add x6_92 (1 : Int32))
        exact ih92 v11 (x6_92 + 1) hI_v11 (by omega) (by omega) (by omega) (by omega) (by omega) (by omega) (by omega) (by omega)
  unfold g_X8_copy
  refine ok_bind (k_X8_isRow v hI_v a1 ) (fun r13 hr13 => ?_)
  replace hr13 : (0 : Int) ≤ Int32.toInt r13 ∧ Int32.toInt r13 ≤ (1 : Int) ∧ ((Int32.toInt r13 = 0 ∨ (0 ≤ Int32.toInt a1 ∧ Int32.toInt a1 ≤ 7))) := hr13
  obtain ⟨hr13_lo, hr13_hi, hr13_p0⟩ := hr13
  refine ok_ite _ (fun c15 => ?_) (fun c15 => ?_)
  · skip
    have ic15 := i_eq c15
    try clear hr13_p0
    have : (0 : Int32).toInt = 0 := (by decide)
    refine ok_some ?_
    show IM v
    have : (-1000001 : Int32).toInt = -1000001 := (by decide)
    exact hI_v
  · skip
    have ic15 : Int32.toInt r13 = 1 := one_of hr13_lo hr13_hi c15
    try replace hr13_p0 : (0 ≤ Int32.toInt a1 ∧ Int32.toInt a1 ≤ 7) := orr hr13_p0 ic15
    have : (0 : Int32).toInt = 0 := (by decide)
    refine ok_bind (k_X8_isRow v hI_v a3 ) (fun r17 hr17 => ?_)
    replace hr17 : (0 : Int) ≤ Int32.toInt r17 ∧ Int32.toInt r17 ≤ (1 : Int) ∧ ((Int32.toInt r17 = 0 ∨ (0 ≤ Int32.toInt a3 ∧ Int32.toInt a3 ≤ 7))) := hr17
    obtain ⟨hr17_lo, hr17_hi, hr17_p0⟩ := hr17
    refine ok_ite _ (fun c19 => ?_) (fun c19 => ?_)
    · skip
      have ic19 := i_eq c19
      try clear hr17_p0
      have : (0 : Int32).toInt = 0 := (by decide)
      refine ok_some ?_
      show IM v
      have : (-1000001 : Int32).toInt = -1000001 := (by decide)
      exact hI_v
    · skip
      have ic19 : Int32.toInt r17 = 1 := one_of hr17_lo hr17_hi c19
      try replace hr17_p0 : (0 ≤ Int32.toInt a3 ∧ Int32.toInt a3 ≤ 7) := orr hr17_p0 ic19
      have : (0 : Int32).toInt = 0 := (by decide)
      refine ok_bind (k_X8_isMissing v hI_v a1 (by omega)) (fun r21 hr21 => ?_)
      replace hr21 : (0 : Int) ≤ Int32.toInt r21 ∧ Int32.toInt r21 ≤ (1 : Int) := hr21
      obtain ⟨hr21_lo, hr21_hi⟩ := hr21
      refine ok_ite _ (fun c23 => ?_) (fun c23 => ?_)
      · skip
        have ic23 := i_eq c23
        have : (0 : Int32).toInt = 0 := (by decide)
        refine ok_bind (k_X8_isMissing v hI_v a3 (by omega)) (fun r25 hr25 => ?_)
        replace hr25 : (0 : Int) ≤ Int32.toInt r25 ∧ Int32.toInt r25 ≤ (1 : Int) := hr25
        obtain ⟨hr25_lo, hr25_hi⟩ := hr25
        refine ok_ite _ (fun c27 => ?_) (fun c27 => ?_)
        · skip
          have ic27 := i_eq c27
          have : (0 : Int32).toInt = 0 := (by decide)
          refine ok_grd _ ?_ ?_
          · skip
            exact gr (by omega) (by omega)
          refine ok_grd _ ?_ ?_
          · skip
            exact gr (by omega) (by omega)
          refine ok_ite _ (fun c30 => ?_) (fun c30 => ?_)
          · skip
            have ic30 := i_eq c30
            refine ok_bind (k_X8_isPart v hI_v a1 a2 a5 (by omega)) (fun r32 hr32 => ?_)
            replace hr32 : (0 : Int) ≤ Int32.toInt r32 ∧ Int32.toInt r32 ≤ (1 : Int) ∧ (Int32.toInt r32 = 0 ∨ (0 ≤ Int32.toInt a2 ∧ 0 ≤ Int32.toInt a5 ∧ Int32.toInt a2 + Int32.toInt a5 ≤ 40)) := hr32
            obtain ⟨hr32_lo, hr32_hi, hr32_p0⟩ := hr32
            refine ok_ite _ (fun c34 => ?_) (fun c34 => ?_)
            · skip
              have ic34 := i_eq c34
              try clear hr32_p0
              have : (0 : Int32).toInt = 0 := (by decide)
              refine ok_kb2 (k_X8_found v hI_v 2 ) (fun r36 v37 hr36 => ?_)
              replace hr36 : IM v37 := hr36
              have hI_v37 := hr36
              clear hr36
              refine ok_some ?_
              show IM v37
              exact hI_v37
            · skip
              have ic34 : Int32.toInt r32 = 1 := one_of hr32_lo hr32_hi c34
              try replace hr32_p0 : (0 ≤ Int32.toInt a2 ∧ 0 ≤ Int32.toInt a5 ∧ Int32.toInt a2 + Int32.toInt a5 ≤ 40) := orr hr32_p0 ic34
              have : (0 : Int32).toInt = 0 := (by decide)
              refine ok_bind (k_X8_isPart v hI_v a3 a4 a5 (by omega)) (fun r39 hr39 => ?_)
              replace hr39 : (0 : Int) ≤ Int32.toInt r39 ∧ Int32.toInt r39 ≤ (1 : Int) ∧ (Int32.toInt r39 = 0 ∨ (0 ≤ Int32.toInt a4 ∧ 0 ≤ Int32.toInt a5 ∧ Int32.toInt a4 + Int32.toInt a5 ≤ 40)) := hr39
              obtain ⟨hr39_lo, hr39_hi, hr39_p0⟩ := hr39
              refine ok_ite _ (fun c41 => ?_) (fun c41 => ?_)
              · skip
                have ic41 := i_eq c41
                try clear hr39_p0
                have : (0 : Int32).toInt = 0 := (by decide)
                refine ok_kb2 (k_X8_found v hI_v 2 ) (fun r43 v44 hr43 => ?_)
                replace hr43 : IM v44 := hr43
                have hI_v44 := hr43
                clear hr43
                refine ok_some ?_
                show IM v44
                exact hI_v44
              · skip
                have ic41 : Int32.toInt r39 = 1 := one_of hr39_lo hr39_hi c41
                try replace hr39_p0 : (0 ≤ Int32.toInt a4 ∧ 0 ≤ Int32.toInt a5 ∧ Int32.toInt a4 + Int32.toInt a5 ≤ 40) := orr hr39_p0 ic41
                have : (0 : Int32).toInt = 0 := (by decide)
                have : (0 : Int32).toInt = 0 := (by decide)
                exact loop92 2000 v 0 hI_v (by omega) (by omega) (by omega) (by omega) (by omega) (by omega) (by omega) (by omega)
          · skip
            have ic30 := i_ne c30
            refine ok_kb2 (k_X8_found v hI_v 5 ) (fun r46 v47 hr46 => ?_)
            replace hr46 : IM v47 := hr46
            have hI_v47 := hr46
            clear hr46
            refine ok_some ?_
            show IM v47
            exact hI_v47
        · skip
          have ic27 : Int32.toInt r25 = 1 := one_of hr25_lo hr25_hi c27
          have : (0 : Int32).toInt = 0 := (by decide)
          refine ok_kb2 (k_X8_found v hI_v 1 ) (fun r49 v50 hr49 => ?_)
          replace hr49 : IM v50 := hr49
          have hI_v50 := hr49
          clear hr49
          refine ok_some ?_
          show IM v50
          exact hI_v50
      · skip
        have ic23 : Int32.toInt r21 = 1 := one_of hr21_lo hr21_hi c23
        have : (0 : Int32).toInt = 0 := (by decide)
        refine ok_kb2 (k_X8_found v hI_v 1 ) (fun r52 v53 hr52 => ?_)
        replace hr52 : IM v53 := hr52
        have hI_v53 := hr52
        clear hr52
        refine ok_some ?_
        show IM v53
        exact hI_v53
set_option maxHeartbeats 4000000 in
theorem k_X8_drop (v : Mm) (hI_v : IM v) (a1 : Int32) : ok (g_X8_drop v a1) (fun z => IM z.2) := by
  unfold g_X8_drop
  refine ok_bind (k_X8_isRow v hI_v a1 ) (fun r2 hr2 => ?_)
  replace hr2 : (0 : Int) ≤ Int32.toInt r2 ∧ Int32.toInt r2 ≤ (1 : Int) ∧ ((Int32.toInt r2 = 0 ∨ (0 ≤ Int32.toInt a1 ∧ Int32.toInt a1 ≤ 7))) := hr2
  obtain ⟨hr2_lo, hr2_hi, hr2_p0⟩ := hr2
  refine ok_ite _ (fun c4 => ?_) (fun c4 => ?_)
  · skip
    have ic4 := i_eq c4
    try clear hr2_p0
    have : (0 : Int32).toInt = 0 := (by decide)
    refine ok_some ?_
    show IM v
    have : (-1000001 : Int32).toInt = -1000001 := (by decide)
    exact hI_v
  · skip
    have ic4 : Int32.toInt r2 = 1 := one_of hr2_lo hr2_hi c4
    try replace hr2_p0 : (0 ≤ Int32.toInt a1 ∧ Int32.toInt a1 ≤ 7) := orr hr2_p0 ic4
    have : (0 : Int32).toInt = 0 := (by decide)
    refine ok_bind (k_X8_isMissing v hI_v a1 (by omega)) (fun r6 hr6 => ?_)
    replace hr6 : (0 : Int) ≤ Int32.toInt r6 ∧ Int32.toInt r6 ≤ (1 : Int) := hr6
    obtain ⟨hr6_lo, hr6_hi⟩ := hr6
    refine ok_ite _ (fun c8 => ?_) (fun c8 => ?_)
    · skip
      have ic8 := i_eq c8
      have : (0 : Int32).toInt = 0 := (by decide)
      refine ok_grd _ ?_ ?_
      · skip
        exact gr (by omega) (by omega)
      refine ok_let (fun v10 ev10 => ?_)
      have hI_v10 : IM v10 := by rw [ev10]; exact hI_v.upo (by decide) (by have h9 := i_bd (-1000000 : Int32); exact ⟨h9.1, Int.le_of_lt_add_one h9.2⟩)
      refine ok_grd _ ?_ ?_
      · skip
        exact gr (by omega) (by omega)
      refine ok_kb2 (k_X8_well v10 hI_v10 (v10 32 0 (Int32.toNatClampNeg a1)) ) (fun r13 v14 hr13 => ?_)
      replace hr13 : IM v14 := hr13
      have hI_v14 := hr13
      clear hr13
      refine ok_some ?_
      show IM v14
      exact hI_v14
    · skip
      have ic8 : Int32.toInt r6 = 1 := one_of hr6_lo hr6_hi c8
      have : (0 : Int32).toInt = 0 := (by decide)
      refine ok_kb2 (k_X8_found v hI_v 1 ) (fun r16 v17 hr16 => ?_)
      replace hr16 : IM v17 := hr16
      have hI_v17 := hr16
      clear hr16
      refine ok_some ?_
      show IM v17
      exact hI_v17
set_option maxHeartbeats 4000000 in
theorem k_X8_feed (v : Mm) (hI_v : IM v) (a1 : Int32) : ok (g_X8_feed v a1) (fun z => IM z.2) := by
  unfold g_X8_feed
  refine ok_bind (k_X8_in v hI_v a1 0 255 ) (fun r2 hr2 => ?_)
  replace hr2 : (0 : Int) ≤ Int32.toInt r2 ∧ Int32.toInt r2 ≤ (1 : Int) ∧ (Int32.toInt r2 = 0 ∨ (Int32.toInt 0 ≤ Int32.toInt a1 ∧ Int32.toInt a1 ≤ Int32.toInt 255)) := hr2
  obtain ⟨hr2_lo, hr2_hi, hr2_p0⟩ := hr2
  have : (0 : Int32).toInt = 0 := (by decide)
  have : (255 : Int32).toInt = 255 := (by decide)
  refine ok_ite _ (fun c4 => ?_) (fun c4 => ?_)
  · skip
    have ic4 := i_eq c4
    try clear hr2_p0
    have : (0 : Int32).toInt = 0 := (by decide)
    refine ok_some ?_
    show IM v
    have : (-1000001 : Int32).toInt = -1000001 := (by decide)
    exact hI_v
  · skip
    have ic4 : Int32.toInt r2 = 1 := one_of hr2_lo hr2_hi c4
    try replace hr2_p0 : (Int32.toInt 0 ≤ Int32.toInt a1 ∧ Int32.toInt a1 ≤ Int32.toInt 255) := orr hr2_p0 ic4
    have : (0 : Int32).toInt = 0 := (by decide)
    refine ok_ite _ (fun c5 => ?_) (fun c5 => ?_)
    · skip
      have ic5 := i_eq c5
      have : (0 : Int) ≤ (v 30 0 6).toInt ∧ (v 30 0 6).toInt ≤ (100 : Int) := hI_v.1 30 0 6
      have : (100 : Int32).toInt = 100 := (by decide)
      refine ok_some ?_
      show IM v
      have : (-1000003 : Int32).toInt = -1000003 := (by decide)
      exact hI_v
    · skip
      have ic5 := i_ne c5
      have : (0 : Int) ≤ (v 30 0 6).toInt ∧ (v 30 0 6).toInt ≤ (100 : Int) := hI_v.1 30 0 6
      have : (100 : Int32).toInt = 100 := (by decide)
      refine ok_grd _ ?_ ?_
      · skip
        have : (0 : Int) ≤ (v 30 0 6).toInt ∧ (v 30 0 6).toInt ≤ (100 : Int) := hI_v.1 30 0 6
        exact gr (by omega) (by omega)
      refine ok_let (fun v7 ev7 => ?_)
      have : (0 : Int) ≤ (v 30 0 6).toInt ∧ (v 30 0 6).toInt ≤ (100 : Int) := hI_v.1 30 0 6
      have hI_v7 : IM v7 := by
        rw [ev7]
        refine hI_v.upo (by decide) ?_
        show (0 : Int) ≤ Int32.toInt a1 ∧ Int32.toInt a1 ≤ (255 : Int)
        omega
      have := i_eq (show v7 30 0 6 = v 30 0 6 by rw [ev7]; exact up3_t (by decide))
      refine ok_let (fun v8 ev8 => ?_)
      have hI_v8 : IM v8 := by
        rw [ev8]
        refine hI_v7.upo (by decide) ?_
        show (0 : Int) ≤ Int32.toInt ((v7 30 0 6) + 1) ∧ Int32.toInt ((v7 30 0 6) + 1) ≤ (100 : Int)
        have : (0 : Int) ≤ (v7 30 0 6).toInt ∧ (v7 30 0 6).toInt ≤ (100 : Int) := hI_v7.1 30 0 6
        have : (1 : Int32).toInt = 1 := (by decide)
        have := i_bd (v7 30 0 6)
        (first | have := sp_addx (v7 30 0 6) (1 : Int32) (by omega) | obtain ⟨k1, hk1⟩ := sp_add (v7 30 0 6) (1 : Int32))
        omega
      have := i_eq (show v8 30 0 6 = ((v7 30 0 6) + 1) by rw [ev8]; exact up3_s)
      have : (0 : Int) ≤ (v7 30 0 6).toInt ∧ (v7 30 0 6).toInt ≤ (100 : Int) := hI_v7.1 30 0 6
      have : (1 : Int32).toInt = 1 := (by decide)
      have := i_bd (v7 30 0 6)
      (first | have := sp_addx (v7 30 0 6) (1 : Int32) (by omega) | obtain ⟨k2, hk2⟩ := sp_add (v7 30 0 6) (1 : Int32))
      refine ok_some ?_
      show IM v8
      have : (0 : Int) ≤ (v8 30 0 6).toInt ∧ (v8 30 0 6).toInt ≤ (100 : Int) := hI_v8.1 30 0 6
      exact hI_v8
