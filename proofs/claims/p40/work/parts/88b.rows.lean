/-! set, copy, drop, feed -/
theorem cut8 (a : Int32) : (a <<< ((24 : Int32) &&& 31)) >>> ((24 : Int32) &&& 31) = a.toInt8.toInt32 := by
  rw [show ((24 : Int32) &&& 31) = 24 by decide]
  apply Int32.toInt_inj.mp
  rw [Int8.toInt_toInt32, Int32.toInt_toInt8]
  have h1 : ((a <<< (24 : Int32)) >>> (24 : Int32)).toInt = ((a.toBitVec <<< (24 : Nat)).sshiftRight 24).toInt := rfl
  rw [h1, BitVec.toInt_sshiftRight, BitVec.toInt_shiftLeft]
  have h2 : a.toInt = a.toBitVec.toInt := rfl
  rw [h2, BitVec.toInt_eq_toNat_cond]
  have := a.toBitVec.isLt
  generalize a.toBitVec.toNat = N at *
  rw [Int.shiftRight_eq_div_pow, Nat.shiftLeft_eq]
  unfold Int.bmod
  simp only []
  split <;> split <;> split <;> omega
theorem cut16 (a : Int32) : (a <<< ((16 : Int32) &&& 31)) >>> ((16 : Int32) &&& 31) = a.toInt16.toInt32 := by
  rw [show ((16 : Int32) &&& 31) = 16 by decide]
  apply Int32.toInt_inj.mp
  rw [Int16.toInt_toInt32, Int32.toInt_toInt16]
  have h1 : ((a <<< (16 : Int32)) >>> (16 : Int32)).toInt = ((a.toBitVec <<< (16 : Nat)).sshiftRight 16).toInt := rfl
  rw [h1, BitVec.toInt_sshiftRight, BitVec.toInt_shiftLeft]
  have h2 : a.toInt = a.toBitVec.toInt := rfl
  rw [h2, BitVec.toInt_eq_toNat_cond]
  have := a.toBitVec.isLt
  generalize a.toBitVec.toNat = N at *
  rw [Int.shiftRight_eq_div_pow, Nat.shiftLeft_eq]
  unfold Int.bmod
  simp only []
  split <;> split <;> split <;> omega
def lcut (l a : Int32) : Int32 := if l = 0 then a.toInt8.toInt32 else if l = 1 then a.toInt16.toInt32 else a
theorem q_X8_cut (v : Mm) (l a : Int32) : g_X8_cut v l a = some (lcut l a) := by
  unfold g_X8_cut lcut
  rw [cut8, cut16]
  split
  · rfl
  · split <;> rfl
theorem q_X5_put (v : Mm) (i : Nat) (a1 a2 : Int32) (h1 : 0 ≤ a1.toInt) (h2 : a1.toInt < 40) : g_X5_put v i a1 a2 = some (lcut (v 2 i 1) a2, up3 v 3 i (Int32.toNatClampNeg a1) (lcut (v 2 i 1) a2)) := by
  have hg := gr (n := 40) h1 h2
  unfold g_X5_put lcut
  by_cases c1 : v 2 i 1 = 0
  · rw [if_pos c1, if_pos c1, if_neg hg]
    show (if _ then none else _) = _
    rw [if_neg hg, up3_s]
  · rw [if_neg c1, if_neg c1]
    by_cases c2 : v 2 i 1 = 1
    · rw [if_pos c2, if_pos c2, if_neg hg]
      show (if _ then none else _) = _
      rw [if_neg hg, up3_s]
    · rw [if_neg c2, if_neg c2, if_neg hg]
      show (if _ then none else _) = _
      rw [if_neg hg, up3_s]
theorem q_X5_reaches (v : Mm) (i : Nat) (a1 a2 : Int32) (hs : 0 ≤ (v 2 i 2).toInt ∧ (v 2 i 2).toInt ≤ 40) : g_X5_reaches v i a1 a2 = some (b01 (0 ≤ a1.toInt ∧ 0 ≤ a2.toInt ∧ a1.toInt + a2.toInt ≤ (v 2 i 2).toInt)) := by
  have e0 : (0 : Int32).toInt = 0 := by decide
  unfold g_X5_reaches b01
  by_cases c1 : a1 < 0
  · have := i_lt c1
    rw [if_pos c1, if_neg (by omega)]
  · have i1 := i_nlt c1
    rw [if_neg c1]
    by_cases c2 : a2 < 0
    · have := i_lt c2
      rw [if_pos c2, if_neg (by omega)]
    · have i2 := i_nlt c2
      rw [if_neg c2]
      have b1 := i_bd a2
      have e1 := sp_subx (v 2 i 2) a2 (by omega)
      by_cases c3 : (v 2 i 2) - a2 < a1
      · have := i_lt c3
        rw [if_pos c3, if_neg (by omega)]
      · have := i_nlt c3
        rw [if_neg c3, if_pos (by omega)]
def fnd (v : Mm) (i : Nat) (a1 a2 : Int32) : Int32 := if v 2 i 1 = -1 then 1 else if 0 ≤ a1.toInt ∧ 0 ≤ a2.toInt ∧ a1.toInt + a2.toInt ≤ (v 2 i 2).toInt then 0 else 2
theorem q_X5_findingOf (v : Mm) (i : Nat) (a1 a2 : Int32) (hs : 0 ≤ (v 2 i 2).toInt ∧ (v 2 i 2).toInt ≤ 40) : g_X5_findingOf v i a1 a2 = some (fnd v i a1 a2) := by
  unfold g_X5_findingOf fnd
  rw [q_X5_reaches v i a1 a2 hs]
  simp only [Option.bind_some, b01_z]
  split
  · rfl
  · split <;> rfl
theorem q_X8_isMissing (v : Mm) (a1 : Int32) (h1 : 0 ≤ a1.toInt) (h2 : a1.toInt ≤ 7) : g_X8_isMissing v a1 = some (b01 (v 31 0 (Int32.toNatClampNeg a1) = -1000000)) := by
  unfold g_X8_isMissing b01
  rw [if_neg (gr (n := 8) h1 (by omega))]
  split <;> rfl
theorem q_X8_isPart (v : Mm) (a1 a2 a3 : Int32) (h1 : 0 ≤ a1.toInt) (h2 : a1.toInt ≤ 7) (hs : 0 ≤ (v 32 0 (Int32.toNatClampNeg a1)).toInt ∧ (v 32 0 (Int32.toNatClampNeg a1)).toInt ≤ 40) : g_X8_isPart v a1 a2 a3 = some (b01 (0 ≤ a2.toInt ∧ 0 ≤ a3.toInt ∧ a2.toInt + a3.toInt ≤ (v 32 0 (Int32.toNatClampNeg a1)).toInt)) := by
  have e0 : (0 : Int32).toInt = 0 := by decide
  have hg := gr (n := 8) h1 (by omega)
  unfold g_X8_isPart b01
  by_cases c1 : a2 < 0
  · have := i_lt c1
    rw [if_pos c1, if_neg (by omega)]
  · have i1 := i_nlt c1
    rw [if_neg c1]
    by_cases c2 : a3 < 0
    · have := i_lt c2
      rw [if_pos c2, if_neg (by omega)]
    · have i2 := i_nlt c2
      rw [if_neg c2, if_neg hg]
      by_cases c3 : v 32 0 (Int32.toNatClampNeg a1) < a2
      · have := i_lt c3
        rw [if_pos c3, if_neg (by omega)]
      · have := i_nlt c3
        have e1 := sp_subx (v 32 0 (Int32.toNatClampNeg a1)) a2 (by omega)
        rw [if_neg c3, if_neg hg]
        by_cases c4 : (v 32 0 (Int32.toNatClampNeg a1)) - a2 < a3
        · have := i_lt c4
          rw [if_pos c4, if_neg (by omega)]
        · have := i_nlt c4
          rw [if_neg c4, if_pos (by omega)]
theorem sizeX {v : Mm} (h : PW rgX v) (r : Nat) : 0 ≤ (v 2 r 2).toInt ∧ (v 2 r 2).toInt ≤ 40 := h 2 r 2
theorem sizeM {v : Mm} (h : IM v) (r : Nat) : 0 ≤ (v 32 0 r).toInt ∧ (v 32 0 r).toInt ≤ 40 := h.1 32 0 r
theorem RR.lane {vx vm : Mm} (h : RR vx vm) {r : Nat} (hr : r < 8) : vx 2 r 1 = -1 ↔ vm 31 0 r = -1000000 := by
  have e1 : (-1 : Int32).toInt = -1 := by decide
  have e2 : (-1000000 : Int32).toInt = -1000000 := by decide
  rcases h.1 r hr with ⟨q1, q2⟩ | ⟨q1, q2, q3⟩
  · exact ⟨fun _ => q2, fun _ => q1⟩
  · refine ⟨fun q => ?_, fun q => ?_⟩
    · have := i_eq q; omega
    · rw [← q1] at q; have := i_eq q; omega
theorem RR.laneE {vx vm : Mm} (h : RR vx vm) {r : Nat} (hr : r < 8) (hn : ¬ vx 2 r 1 = -1) : vx 2 r 1 = vm 31 0 r := by
  rcases h.1 r hr with ⟨q1, q2⟩ | ⟨q1, q2, q3⟩
  · exact absurd q1 hn
  · exact q1
theorem RR.item {vx vm : Mm} (h : RR vx vm) {r k : Nat} (hr : r < 8) (hk : k < 40) (x : Int32) : RR (up3 vx 3 r k x) (up3 vm 33 0 (40 * r + k) x) := by
  refine ⟨fun r' hr' => ?_, fun r' hr' => ?_, fun r' k' hr' hk' => ?_⟩
  · rw [up3_t (by decide), up3_t (by decide)]; exact h.1 r' hr'
  · rw [up3_t (by decide), up3_t (by decide)]; exact h.2.1 r' hr'
  · by_cases q : r' = r
    · subst q
      by_cases q2 : k' = k
      · subst q2; rw [up3_s, up3_s]
      · rw [up3_j q2, up3_j (by omega)]; exact h.2.2 r' k' hr' hk'
    · rw [up3_i q, up3_j (by omega)]; exact h.2.2 r' k' hr' hk'
theorem r_set {vx vm : Mm} (hx : PW rgX vx) (hm : IM vm) (h : RR vx vm) (a1 a2 a3 : Int32) : rel (g_X7_set vx a1 a2 a3) (g_X8_set vm a1 a2 a3) (relRow vx vm) := by
  have e0 : (0 : Int32).toInt = 0 := by decide
  have e1 : (1 : Int32).toInt = 1 := by decide
  unfold g_X7_set g_X8_set
  simp only [q_X7_isRow, q_X8_isRow, Option.bind_some, b01_z]
  refine rel_ite Iff.rfl (fun c1 => ?_) (fun _ => rel_some (relRow_same h))
  refine rel_grdL _ (fun _ => ?_)
  have hr : Int32.toNatClampNeg a1 < 8 := clamp_lt c1.1 (by omega)
  have hs := sizeX hx (Int32.toNatClampNeg a1)
  have hz := i_eq (h.2.1 _ hr)
  rw [q_X5_findingOf vx _ a2 1 hs, q_X8_isMissing vm a1 c1.1 c1.2]
  simp only [Option.bind_some, b01_z]
  by_cases m : vx 2 (Int32.toNatClampNeg a1) 1 = -1
  · have ef : fnd vx (Int32.toNatClampNeg a1) a2 1 = 1 := if_pos m
    rw [ef, if_neg (by decide), if_pos ((h.lane hr).mp m)]
    show rel (some (-1000010 - 1, up3 vx 0 0 8 1)) (some (-1000010 - 1, up3 vm 30 0 4 1)) _
    exact rel_some (relRow_st h)
  · rw [if_neg (fun q => m ((h.lane hr).mpr q))]
    refine rel_grdR _ (fun _ => ?_)
    rw [q_X8_in]
    simp only [Option.bind_some, b01_z]
    have e5 := sp_subx (vm 32 0 (Int32.toNatClampNeg a1)) 1 (by omega)
    by_cases c2 : 0 ≤ a2.toInt ∧ 0 ≤ (1 : Int32).toInt ∧ a2.toInt + (1 : Int32).toInt ≤ (vx 2 (Int32.toNatClampNeg a1) 2).toInt
    · have ef : fnd vx (Int32.toNatClampNeg a1) a2 1 = 0 := (if_neg m).trans (if_pos c2)
      rw [ef, if_pos rfl]
      refine rel_grdL _ (fun _ => ?_)
      rw [if_pos (show (0 : Int32).toInt ≤ a2.toInt ∧ a2.toInt ≤ (vm 32 0 (Int32.toNatClampNeg a1) - 1).toInt by omega)]
      refine rel_grdR _ (fun _ => ?_)
      rw [q_X5_put vx _ a2 a3 c2.1 (by omega), q_X8_cut]
      refine rel_letR (fun r16 e16 => ?_)
      refine rel_grdR _ (fun _ => rel_grdR _ (fun _ => ?_))
      rw [← h.laneE hr m] at e16
      show rel (some (lcut (vx 2 (Int32.toNatClampNeg a1) 1) a3, up3 (up3 vx 3 (Int32.toNatClampNeg a1) (Int32.toNatClampNeg a2) (lcut (vx 2 (Int32.toNatClampNeg a1) 1) a3)) 0 0 8 0)) (some (up3 vm 33 0 (Int32.toNatClampNeg (((40 : Int32) * a1) + a2)) r16 33 0 (Int32.toNatClampNeg (((40 : Int32) * a1) + a2)), up3 (up3 vm 33 0 (Int32.toNatClampNeg (((40 : Int32) * a1) + a2)) r16) 30 0 4 0)) _
      rw [up3_s, e16, ix40 c1.1 c1.2 c2.1 (by omega)]
      exact rel_some (relRow_st (h.item hr (clamp_lt c2.1 (by omega)) _))
    · have ef : fnd vx (Int32.toNatClampNeg a1) a2 1 = 2 := (if_neg m).trans (if_neg c2)
      rw [ef, if_neg (by decide), if_neg (show ¬ ((0 : Int32).toInt ≤ a2.toInt ∧ a2.toInt ≤ (vm 32 0 (Int32.toNatClampNeg a1) - 1).toInt) by omega)]
      show rel (some (-1000010 - 2, up3 vx 0 0 8 2)) (some (-1000010 - 2, up3 vm 30 0 4 2)) _
      exact rel_some (relRow_st h)
theorem r_drop {vx vm : Mm} (h : RR vx vm) (a1 : Int32) : rel (g_X7_drop vx a1) (g_X8_drop vm a1) (relRow vx vm) := by
  unfold g_X7_drop g_X8_drop
  simp only [q_X7_isRow, q_X8_isRow, Option.bind_some, b01_z]
  refine rel_ite Iff.rfl (fun c1 => ?_) (fun _ => rel_some (relRow_same h))
  have hr : Int32.toNatClampNeg a1 < 8 := clamp_lt c1.1 (by omega)
  refine rel_grdL _ (fun _ => ?_)
  rw [q_X8_isMissing vm a1 c1.1 c1.2]
  simp only [Option.bind_some, b01_z]
  refine rel_ite (h.lane hr) (fun m => ?_) (fun m => ?_)
  · show rel (some (-1000010 - 1, up3 vx 0 0 8 1)) (some (-1000010 - 1, up3 vm 30 0 4 1)) _
    exact rel_some (relRow_st h)
  · refine rel_grdL _ (fun _ => rel_grdR _ (fun _ => ?_))
    refine rel_grdL _ (fun _ => rel_grdR _ (fun _ => ?_))
    show rel (some (up3 vx 2 (Int32.toNatClampNeg a1) 1 (-1) 2 (Int32.toNatClampNeg a1) 2, up3 (up3 vx 2 (Int32.toNatClampNeg a1) 1 (-1)) 0 0 8 0)) (some (up3 vm 31 0 (Int32.toNatClampNeg a1) (-1000000) 32 0 (Int32.toNatClampNeg a1), up3 (up3 vm 31 0 (Int32.toNatClampNeg a1) (-1000000)) 30 0 4 0)) _
    rw [up3_j (by decide), up3_t (by decide), h.2.1 _ hr]
    refine rel_some (relRow_st ⟨fun r hr' => ?_, fun r hr' => ?_, fun r k hr' hk => ?_⟩)
    · by_cases q : r = Int32.toNatClampNeg a1
      · rw [q, up3_s, up3_s]; exact Or.inl ⟨rfl, rfl⟩
      · rw [up3_i q, up3_j q]; exact h.1 r hr'
    · rw [up3_j (by decide), up3_t (by decide)]; exact h.2.1 r hr'
    · rw [up3_t (by decide), up3_t (by decide)]; exact h.2.2 r k hr' hk
theorem p_X8_copyL2 (v : Mm) (a1 a2 a3 a4 a5 : Int32) (h1 : 0 ≤ a3.toInt) (h2 : a3.toInt ≤ 7) (h3 : 0 ≤ a4.toInt) (h4 : 0 ≤ a5.toInt) (h5 : a4.toInt + a5.toInt ≤ 40) : pk (g_X8_copy_L129 a1 a2 a3 a4 a5 2000 v 0) (fun z => z.1 = a5 ∧ z.2 30 0 4 = 0 ∧ (∀ k, k < Int32.toNatClampNeg a5 → z.2 33 0 (40 * Int32.toNatClampNeg a3 + (Int32.toNatClampNeg a4 + k)) = v 34 0 k) ∧ ∀ t i j, ¬ (t = 30 ∧ j = 4) → ¬ (t = 33 ∧ 40 * Int32.toNatClampNeg a3 + Int32.toNatClampNeg a4 ≤ j ∧ j < 40 * Int32.toNatClampNeg a3 + Int32.toNatClampNeg a4 + Int32.toNatClampNeg a5) → z.2 t i j = v t i j) := by
  have e1 : (1 : Int32).toInt = 1 := by decide
  have t5 := tcn a5
  have loop : ∀ (n : Nat) (w : Mm) (x : Int32) (k : Nat), x.toInt = (k : Int) → k ≤ Int32.toNatClampNeg a5 → ((∀ j, j < k → w 33 0 (40 * Int32.toNatClampNeg a3 + (Int32.toNatClampNeg a4 + j)) = v 34 0 j) ∧ ∀ t i j, ¬ (t = 33 ∧ 40 * Int32.toNatClampNeg a3 + Int32.toNatClampNeg a4 ≤ j ∧ j < 40 * Int32.toNatClampNeg a3 + Int32.toNatClampNeg a4 + Int32.toNatClampNeg a5) → w t i j = v t i j) → pk (g_X8_copy_L129 a1 a2 a3 a4 a5 n w x) (fun z => z.1 = a5 ∧ z.2 30 0 4 = 0 ∧ (∀ k, k < Int32.toNatClampNeg a5 → z.2 33 0 (40 * Int32.toNatClampNeg a3 + (Int32.toNatClampNeg a4 + k)) = v 34 0 k) ∧ ∀ t i j, ¬ (t = 30 ∧ j = 4) → ¬ (t = 33 ∧ 40 * Int32.toNatClampNeg a3 + Int32.toNatClampNeg a4 ≤ j ∧ j < 40 * Int32.toNatClampNeg a3 + Int32.toNatClampNeg a4 + Int32.toNatClampNeg a5) → z.2 t i j = v t i j) := by
    intro n
    induction n with
    | zero => intro w x k _ _ _ b e; cases e
    | succ n ih =>
      intro w x k hx hk hw
      show pk (b_X8_copy_L129 (g_X8_copy_L129 a1 a2 a3 a4 a5 n) a1 a2 a3 a4 a5 w x) _
      unfold b_X8_copy_L129
      refine pk_ite _ (fun c => ?_) (fun c => ?_)
      · have := i_le c
        obtain rfl : k = Int32.toNatClampNeg a5 := by omega
        show pk (some (a5, up3 w 30 0 4 0)) _
        refine pk_some ⟨rfl, (show up3 w 30 0 4 0 30 0 4 = 0 from up3_s), fun k hk => ?_, fun t i j q1 q2 => ?_⟩
        · show up3 w 30 0 4 0 33 0 _ = _
          rw [up3_t (by decide)]; exact hw.1 k hk
        · show up3 w 30 0 4 0 t i j = v t i j
          unfold up3
          rw [if_neg (fun q => q1 ⟨q.1, q.2.2⟩)]
          exact hw.2 t i j q2
      · have := i_nle c
        refine pk_grd _ (fun _ => pk_grd _ (fun _ => ?_))
        refine pk_let (fun w1 ew1 => ?_)
        have hc : Int32.toNatClampNeg x = k := by rw [tcn]; omega
        rw [ix40b h1 h2 h3 (by omega) (by omega), hc, hw.2 34 0 k (fun q => absurd q.1 (by decide))] at ew1
        have e2 := sp_addx x 1 (by omega)
        refine ih w1 (x + 1) (k + 1) (by omega) (by omega) ⟨fun j hj => ?_, fun t i j hn => ?_⟩
        · by_cases q : j = k
          · rw [ew1, q]; exact up3_s
          · rw [ew1, up3_j (by omega)]; exact hw.1 j (by omega)
        · rw [ew1]; unfold up3
          rw [if_neg (fun q => hn ⟨q.1, by omega, by omega⟩)]
          exact hw.2 t i j hn
  exact loop 2000 v 0 0 (by decide) (by omega) ⟨fun j hj => absurd hj (Nat.not_lt_zero j), fun _ _ _ _ => rfl⟩
theorem p_X8_copyL (v : Mm) (a1 a2 a3 a4 a5 : Int32) (h1 : 0 ≤ a3.toInt) (h2 : a3.toInt ≤ 7) (h3 : 0 ≤ a4.toInt) (h4 : 0 ≤ a5.toInt) (h5 : a4.toInt + a5.toInt ≤ 40) (k1 : 0 ≤ a1.toInt) (k2 : a1.toInt ≤ 7) (k3 : 0 ≤ a2.toInt) (k5 : a2.toInt + a5.toInt ≤ 40) : pk (g_X8_copy_L92 a1 a2 a3 a4 a5 2000 v 0) (fun z => z.1 = a5 ∧ z.2 30 0 4 = 0 ∧ (∀ k, k < Int32.toNatClampNeg a5 → z.2 33 0 (40 * Int32.toNatClampNeg a3 + (Int32.toNatClampNeg a4 + k)) = v 33 0 (40 * Int32.toNatClampNeg a1 + (Int32.toNatClampNeg a2 + k))) ∧ ∀ t i j, ¬ (t = 30 ∧ j = 4) → ¬ t = 34 → ¬ (t = 33 ∧ 40 * Int32.toNatClampNeg a3 + Int32.toNatClampNeg a4 ≤ j ∧ j < 40 * Int32.toNatClampNeg a3 + Int32.toNatClampNeg a4 + Int32.toNatClampNeg a5) → z.2 t i j = v t i j) := by
  have e1 : (1 : Int32).toInt = 1 := by decide
  have t5 := tcn a5
  have loop : ∀ (n : Nat) (w : Mm) (x : Int32) (k : Nat), x.toInt = (k : Int) → k ≤ Int32.toNatClampNeg a5 → ((∀ j, j < k → w 34 0 j = v 33 0 (40 * Int32.toNatClampNeg a1 + (Int32.toNatClampNeg a2 + j))) ∧ ∀ t i j, ¬ t = 34 → w t i j = v t i j) → pk (g_X8_copy_L92 a1 a2 a3 a4 a5 n w x) (fun z => z.1 = a5 ∧ z.2 30 0 4 = 0 ∧ (∀ k, k < Int32.toNatClampNeg a5 → z.2 33 0 (40 * Int32.toNatClampNeg a3 + (Int32.toNatClampNeg a4 + k)) = v 33 0 (40 * Int32.toNatClampNeg a1 + (Int32.toNatClampNeg a2 + k))) ∧ ∀ t i j, ¬ (t = 30 ∧ j = 4) → ¬ t = 34 → ¬ (t = 33 ∧ 40 * Int32.toNatClampNeg a3 + Int32.toNatClampNeg a4 ≤ j ∧ j < 40 * Int32.toNatClampNeg a3 + Int32.toNatClampNeg a4 + Int32.toNatClampNeg a5) → z.2 t i j = v t i j) := by
    intro n
    induction n with
    | zero => intro w x k _ _ _ b e; cases e
    | succ n ih =>
      intro w x k hx hk hw
      show pk (b_X8_copy_L92 (g_X8_copy_L92 a1 a2 a3 a4 a5 n) a1 a2 a3 a4 a5 w x) _
      unfold b_X8_copy_L92
      refine pk_ite _ (fun c => ?_) (fun c => ?_)
      · have := i_le c
        obtain rfl : k = Int32.toNatClampNeg a5 := by omega
        refine (p_X8_copyL2 w a1 a2 a3 a4 a5 h1 h2 h3 h4 h5).mono (fun z hz => ⟨hz.1, hz.2.1, fun k hk => ?_, fun t i j q1 q2 q3 => ?_⟩)
        · rw [hz.2.2.1 k hk]; exact hw.1 k hk
        · rw [hz.2.2.2 t i j q1 q3]; exact hw.2 t i j q2
      · have := i_nle c
        refine pk_grd _ (fun _ => pk_grd _ (fun _ => ?_))
        refine pk_let (fun w1 ew1 => ?_)
        have hc : Int32.toNatClampNeg x = k := by rw [tcn]; omega
        rw [ix40b k1 k2 k3 (by omega) (by omega), hc, hw.2 33 0 _ (by decide)] at ew1
        have e2 := sp_addx x 1 (by omega)
        refine ih w1 (x + 1) (k + 1) (by omega) (by omega) ⟨fun j hj => ?_, fun t i j hn => ?_⟩
        · by_cases q : j = k
          · rw [ew1, q]; exact up3_s
          · rw [ew1, up3_j q]; exact hw.1 j (by omega)
        · rw [ew1, up3_t hn]; exact hw.2 t i j hn
  exact loop 2000 v 0 0 (by decide) (by omega) ⟨fun j hj => absurd hj (Nat.not_lt_zero j), fun _ _ _ _ => rfl⟩
theorem r_copy {vx vm : Mm} (hx : PW rgX vx) (hm : IM vm) (h : RR vx vm) (a1 a2 a3 a4 a5 : Int32) : rel (g_X7_copy vx a1 a2 a3 a4 a5) (g_X8_copy vm a1 a2 a3 a4 a5) (relRow vx vm) := by
  unfold g_X7_copy g_X8_copy
  simp only [q_X7_isRow, q_X8_isRow, Option.bind_some, b01_z]
  refine rel_ite Iff.rfl (fun c1 => ?_) (fun _ => rel_some (relRow_same h))
  refine rel_ite Iff.rfl (fun c3 => ?_) (fun _ => rel_some (relRow_same h))
  have hr : Int32.toNatClampNeg a1 < 8 := clamp_lt c1.1 (by omega)
  have hr3 : Int32.toNatClampNeg a3 < 8 := clamp_lt c3.1 (by omega)
  refine rel_grdL _ (fun _ => rel_grdL _ (fun _ => ?_))
  rw [q_X8_isMissing vm a1 c1.1 c1.2]
  simp only [Option.bind_some, b01_z]
  refine rel_ite (h.lane hr) (fun m => ?_) (fun m1 => ?_)
  · show rel (some (-1000010 - 1, up3 vx 0 0 8 1)) (some (-1000010 - 1, up3 vm 30 0 4 1)) _
    exact rel_some (relRow_st h)
  rw [q_X8_isMissing vm a3 c3.1 c3.2]
  simp only [Option.bind_some, b01_z]
  refine rel_ite (h.lane hr3) (fun m => ?_) (fun m3 => ?_)
  · show rel (some (-1000010 - 1, up3 vx 0 0 8 1)) (some (-1000010 - 1, up3 vm 30 0 4 1)) _
    exact rel_some (relRow_st h)
  refine rel_grdR _ (fun _ => rel_grdR _ (fun _ => ?_))
  refine rel_ite (by rw [h.laneE hr m1, h.laneE hr3 m3]) (fun c => ?_) (fun c => ?_)
  rotate_left
  · show rel (some (-1000010 - 5, up3 vx 0 0 8 5)) (some (-1000010 - 5, up3 vm 30 0 4 5)) _
    exact rel_some (relRow_st h)
  have s1 := sizeX hx (Int32.toNatClampNeg a1)
  have s3 := sizeX hx (Int32.toNatClampNeg a3)
  have z1 := h.2.1 _ hr
  have z3 := h.2.1 _ hr3
  rw [q_X5_reaches vx _ a2 a5 s1, q_X8_isPart vm a1 a2 a5 c1.1 c1.2 (sizeM hm _), ← z1]
  simp only [Option.bind_some, b01_z]
  refine rel_ite Iff.rfl (fun c5 => ?_) (fun _ => ?_)
  rotate_left
  · show rel (some (-1000010 - 2, up3 vx 0 0 8 2)) (some (-1000010 - 2, up3 vm 30 0 4 2)) _
    exact rel_some (relRow_st h)
  rw [q_X5_reaches vx _ a4 a5 s3, q_X8_isPart vm a3 a4 a5 c3.1 c3.2 (sizeM hm _), ← z3]
  simp only [Option.bind_some, b01_z]
  refine rel_ite Iff.rfl (fun c6 => ?_) (fun _ => ?_)
  rotate_left
  · show rel (some (-1000010 - 2, up3 vx 0 0 8 2)) (some (-1000010 - 2, up3 vm 30 0 4 2)) _
    exact rel_some (relRow_st h)
  refine rel_grdL _ (fun _ => ?_)
  have t2 := tcn a2
  have t4 := tcn a4
  have t5 := tcn a5
  have t1 := tcn a1
  have t3 := tcn a3
  obtain ⟨C, eC⟩ : ∃ z, z = cpy3 vx 3 (Int32.toNatClampNeg a1) (Int32.toNatClampNeg a2) 3 (Int32.toNatClampNeg a3) (Int32.toNatClampNeg a4) (Int32.toNatClampNeg a5) := ⟨_, rfl⟩
  have hC : ∀ t i j, t ≠ 3 → C t i j = vx t i j := fun t i j q => by rw [eC]; exact cpy3_t q
  rw [← eC]
  show rel (some (a5, up3 C 0 0 8 0)) _ _
  refine rel_someL ((p_X8_copyL vm a1 a2 a3 a4 a5 c3.1 c3.2 c6.1 c6.2.1 (by omega) c1.1 c1.2 c5.1 (by omega)).mono (fun z hz => ?_))
  obtain ⟨w1, w2, w3, w4⟩ := hz
  refine ⟨⟨fun r hr' => ?_, fun r hr' => ?_, fun r k hr' hk => ?_⟩, w1.symm, fun _ => ?_⟩
  · show (up3 C 0 0 8 0 2 r 1 = -1 ∧ z.2 31 0 r = -1000000) ∨ (up3 C 0 0 8 0 2 r 1 = z.2 31 0 r ∧ 0 ≤ (up3 C 0 0 8 0 2 r 1).toInt ∧ (up3 C 0 0 8 0 2 r 1).toInt ≤ 2)
    rw [up3_t (by decide), hC 2 r 1 (by decide), w4 31 0 r (fun q => absurd q.1 (by decide)) (by decide) (fun q => absurd q.1 (by decide))]
    exact h.1 r hr'
  · show up3 C 0 0 8 0 2 r 2 = z.2 32 0 r
    rw [up3_t (by decide), hC 2 r 2 (by decide), w4 32 0 r (fun q => absurd q.1 (by decide)) (by decide) (fun q => absurd q.1 (by decide))]
    exact h.2.1 r hr'
  · show up3 C 0 0 8 0 3 r k = z.2 33 0 (40 * r + k)
    rw [up3_t (by decide), eC]
    unfold cpy3 row3
    by_cases q : r = Int32.toNatClampNeg a3
    · rw [if_pos ⟨rfl, q⟩]
      unfold va_cpy
      by_cases q2 : Int32.toNatClampNeg a4 ≤ k ∧ k < Int32.toNatClampNeg a4 + Int32.toNatClampNeg a5
      · rw [if_pos q2, q]
        have := w3 (k - Int32.toNatClampNeg a4) (by omega)
        rw [show Int32.toNatClampNeg a4 + (k - Int32.toNatClampNeg a4) = k by omega] at this
        rw [this]
        exact h.2.2 _ _ hr (by omega)
      · rw [if_neg q2, w4 33 0 (40 * r + k) (fun q => absurd q.1 (by decide)) (by decide) (fun q3 => q2 (by omega)), ← q]
        exact h.2.2 r k hr' hk
    · rw [if_neg (fun z => q z.2), w4 33 0 (40 * r + k) (fun q => absurd q.1 (by decide)) (by decide) (fun q3 => q (by omega))]
      exact h.2.2 r k hr' hk
  · show up3 C 0 0 8 0 0 0 8 = z.2 30 0 4
    rw [up3_s, w2]
theorem r_feed {vx vm : Mm} (hx : PW rgX vx) (h : RT vx vm) (a1 : Int32) : rel (g_X7_feed vx a1) (g_X8_feed vm a1) (fun a b => RT a.2 b.2 ∧ a.1 = b.1) := by
  have e0 : (0 : Int32).toInt = 0 := by decide
  have e255 : (255 : Int32).toInt = 255 := by decide
  have e100 : (100 : Int32).toInt = 100 := by decide
  have hl : (0 : Int) ≤ (vx 4 0 2).toInt ∧ (vx 4 0 2).toInt ≤ (100 : Int) := hx 4 0 2
  unfold g_X7_feed g_X8_feed
  rw [q_X8_in]
  simp only [Option.bind_some, b01_z]
  refine rel_iteL _ (fun c1 => ?_) (fun c1 => ?_)
  · have := i_lt c1
    rw [if_neg (by omega)]
    exact rel_some ⟨h, rfl⟩
  have i1 := i_nlt c1
  refine rel_iteL _ (fun c2 => ?_) (fun c2 => ?_)
  rotate_left
  · have := i_nle c2
    rw [if_neg (by omega)]
    exact rel_some ⟨h, rfl⟩
  have i2 := i_le c2
  rw [if_pos (by omega)]
  unfold g_X6_append
  by_cases c3 : vx 4 0 2 < 100
  · have i3 := i_lt c3
    have hg := gr (n := 100) hl.1 i3
    have n3 : ¬ vm 30 0 6 = 100 := fun q => by rw [← h.1] at q; have := i_eq q; omega
    rw [if_pos c3, if_neg hg, if_neg n3, ← h.1, if_neg hg]
    show rel (some ((up3 (up3 vx 5 0 (Int32.toNatClampNeg (vx 4 0 2)) a1) 4 0 2 ((up3 vx 5 0 (Int32.toNatClampNeg (vx 4 0 2)) a1) 4 0 2 + 1)) 4 0 2, (up3 (up3 vx 5 0 (Int32.toNatClampNeg (vx 4 0 2)) a1) 4 0 2 ((up3 vx 5 0 (Int32.toNatClampNeg (vx 4 0 2)) a1) 4 0 2 + 1)))) (some ((up3 (up3 vm 35 0 (Int32.toNatClampNeg (vx 4 0 2)) a1) 30 0 6 ((up3 vm 35 0 (Int32.toNatClampNeg (vx 4 0 2)) a1) 30 0 6 + 1)) 30 0 6, (up3 (up3 vm 35 0 (Int32.toNatClampNeg (vx 4 0 2)) a1) 30 0 6 ((up3 vm 35 0 (Int32.toNatClampNeg (vx 4 0 2)) a1) 30 0 6 + 1)))) _
    have e6 : (up3 (up3 vx 5 0 (Int32.toNatClampNeg (vx 4 0 2)) a1) 4 0 2 ((up3 vx 5 0 (Int32.toNatClampNeg (vx 4 0 2)) a1) 4 0 2 + 1)) 4 0 2 = (up3 (up3 vm 35 0 (Int32.toNatClampNeg (vx 4 0 2)) a1) 30 0 6 ((up3 vm 35 0 (Int32.toNatClampNeg (vx 4 0 2)) a1) 30 0 6 + 1)) 30 0 6 := by
      rw [up3_s, up3_s, up3_t (by decide), up3_t (by decide), h.1]
    refine rel_some ⟨⟨e6, fun k => ?_⟩, e6⟩
    show (up3 (up3 vx 5 0 (Int32.toNatClampNeg (vx 4 0 2)) a1) 4 0 2 ((up3 vx 5 0 (Int32.toNatClampNeg (vx 4 0 2)) a1) 4 0 2 + 1)) 5 0 k = (up3 (up3 vm 35 0 (Int32.toNatClampNeg (vx 4 0 2)) a1) 30 0 6 ((up3 vm 35 0 (Int32.toNatClampNeg (vx 4 0 2)) a1) 30 0 6 + 1)) 35 0 k
    rw [show (up3 (up3 vx 5 0 (Int32.toNatClampNeg (vx 4 0 2)) a1) 4 0 2 ((up3 vx 5 0 (Int32.toNatClampNeg (vx 4 0 2)) a1) 4 0 2 + 1)) 5 0 k = up3 vx 5 0 (Int32.toNatClampNeg (vx 4 0 2)) a1 5 0 k from up3_t (by decide), show (up3 (up3 vm 35 0 (Int32.toNatClampNeg (vx 4 0 2)) a1) 30 0 6 ((up3 vm 35 0 (Int32.toNatClampNeg (vx 4 0 2)) a1) 30 0 6 + 1)) 35 0 k = up3 vm 35 0 (Int32.toNatClampNeg (vx 4 0 2)) a1 35 0 k from up3_t (by decide)]
    by_cases q : k = Int32.toNatClampNeg (vx 4 0 2)
    · rw [q, up3_s, up3_s]
    · rw [up3_j q, up3_j q]; exact h.2 k
  · have i3 := i_nlt c3
    have n3 : vm 30 0 6 = 100 := by rw [← h.1]; exact Int32.toInt_inj.mp (by omega)
    rw [if_neg c3, if_pos n3]
    show rel (some _) (some _) _
    exact rel_some ⟨h, rfl⟩
