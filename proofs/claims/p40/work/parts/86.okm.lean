/-! THE REFERENCE'S MEMORY: ranges, and words with guards -/
theorem tc_0 : Int32.toNatClampNeg 0 = 0 := by decide
theorem tc_1 : Int32.toNatClampNeg 1 = 1 := by decide
theorem tc_2 : Int32.toNatClampNeg 2 = 2 := by decide
theorem tc_3 : Int32.toNatClampNeg 3 = 3 := by decide
theorem tc_4 : Int32.toNatClampNeg 4 = 4 := by decide
theorem tc_5 : Int32.toNatClampNeg 5 = 5 := by decide
theorem tc_6 : Int32.toNatClampNeg 6 = 6 := by decide
theorem tc_7 : Int32.toNatClampNeg 7 = 7 := by decide
theorem tcn (e : Int32) : Int32.toNatClampNeg e = e.toInt.toNat := rfl
theorem tcne {e : Int32} {k : Nat} (h0 : 0 ≤ e.toInt) (h : ¬ e.toInt = (k : Int)) : k ≠ Int32.toNatClampNeg e := by
  rw [tcn]; omega
def rgG (j : Nat) : Int × Int := if j = 0 then (0, 9) else if j = 1 then (0, 9) else if j = 2 then (0, 6) else if j = 3 then (0, 6) else if j = 4 then (0, 4) else if j = 5 then (0, 999) else if j = 6 then (0, 15) else if j = 7 then (0, 9) else if 38 ≤ j ∧ (j - 38) % 3 = 0 then (0, 5) else if 38 ≤ j ∧ (j - 38) % 3 = 1 then (0, 4) else (-2147483648, 2147483647)
def rgM (t j : Nat) : Int × Int := match t with
  | 30 => if j = 6 then (0, 100) else if j = 9 then (0, 100) else if j = 10 then (0, 100) else if j = 8 then (-1, 100) else if j = 11 then (0, 5) else if j = 17 then (0, 24) else if j = 22 then (0, 16) else (-2147483648, 2147483647)
  | 32 => (0, 40)
  | 35 => (0, 255)
  | 36 => rgG j
  | 37 => rgG j
  | 39 => rgG (j % 65)
  | 40 => rgG (j % 65)
  | _ => (-2147483648, 2147483647)
theorem rgG_mid {j : Nat} (h1 : 8 ≤ j) (h2 : j < 38) : rgG j = (-2147483648, 2147483647) := by
  unfold rgG
  rw [if_neg (by omega), if_neg (by omega), if_neg (by omega), if_neg (by omega), if_neg (by omega), if_neg (by omega), if_neg (by omega), if_neg (by omega), if_neg (by omega), if_neg (by omega)]
theorem rgG_w {j : Nat} (h1 : 38 ≤ j) (h2 : (j - 38) % 3 = 0) : rgG j = (0, 5) := by
  unfold rgG
  rw [if_neg (by omega), if_neg (by omega), if_neg (by omega), if_neg (by omega), if_neg (by omega), if_neg (by omega), if_neg (by omega), if_neg (by omega), if_pos ⟨h1, h2⟩]
theorem rgG_g {j : Nat} (h1 : 38 ≤ j) (h2 : (j - 38) % 3 = 1) : rgG j = (0, 4) := by
  unfold rgG
  rw [if_neg (by omega), if_neg (by omega), if_neg (by omega), if_neg (by omega), if_neg (by omega), if_neg (by omega), if_neg (by omega), if_neg (by omega), if_neg (by omega), if_pos ⟨h1, h2⟩]
theorem rgG_t {j : Nat} (h1 : 38 ≤ j) (h2 : (j - 38) % 3 = 2) : rgG j = (-2147483648, 2147483647) := by
  unfold rgG
  rw [if_neg (by omega), if_neg (by omega), if_neg (by omega), if_neg (by omega), if_neg (by omega), if_neg (by omega), if_neg (by omega), if_neg (by omega), if_neg (by omega), if_neg (by omega)]
theorem rgG_0 (j : Nat) : (rgG j).1 ≤ 0 ∧ 0 ≤ (rgG j).2 := by
  unfold rgG
  repeat' split
  all_goals decide
def WGs (v : Mm) (t b : Nat) : Prop := ((v t 0 (b + 3)).toInt = 0 ∧ (v t 0 (b + 4)).toInt = 0) ∨ (0 < (v t 0 (b + 3)).toInt ∧ 0 < (v t 0 (b + 4)).toInt)
def IM (v : Mm) : Prop := PW rgM v ∧ WGs v 36 0 ∧ (∀ s, s < 24 → WGs v 39 (65 * s)) ∧ (∀ s, s < 2 → WGs v 40 (65 * s))
theorem WGs.eq {v w : Mm} {t b t2 b2 : Nat} (h : WGs v t b) (h3 : w t2 0 (b2 + 3) = v t 0 (b + 3)) (h4 : w t2 0 (b2 + 4) = v t 0 (b + 4)) : WGs w t2 b2 := by
  unfold WGs at *
  rw [h3, h4]; exact h
theorem IM.upo {v : Mm} {t i j : Nat} {x : Int32} (h : IM v) (ht : t ≠ 36 ∧ t ≠ 39 ∧ t ≠ 40) (hr : (rgM t j).1 ≤ x.toInt ∧ x.toInt ≤ (rgM t j).2) : IM (up3 v t i j x) :=
  ⟨h.1.up hr, h.2.1.eq (up3_t (Ne.symm ht.1)) (up3_t (Ne.symm ht.1)), fun s hs => (h.2.2.1 s hs).eq (up3_t (Ne.symm ht.2.1)) (up3_t (Ne.symm ht.2.1)), fun s hs => (h.2.2.2 s hs).eq (up3_t (Ne.symm ht.2.2)) (up3_t (Ne.symm ht.2.2))⟩
theorem IM.upg {v : Mm} {i j : Nat} {x : Int32} (h : IM v) (hj : j ≠ 3 ∧ j ≠ 4) (hr : (rgM 36 j).1 ≤ x.toInt ∧ x.toInt ≤ (rgM 36 j).2) : IM (up3 v 36 i j x) :=
  ⟨h.1.up hr, h.2.1.eq (up3_j (fun q => hj.1 (by omega))) (up3_j (fun q => hj.2 (by omega))), fun s hs => (h.2.2.1 s hs).eq (up3_t (by decide)) (up3_t (by decide)), fun s hs => (h.2.2.2 s hs).eq (up3_t (by decide)) (up3_t (by decide))⟩
theorem i_full (x : Int32) : (-2147483648 : Int) ≤ x.toInt ∧ x.toInt ≤ 2147483647 := by have := i_bd x; omega
theorem IM.um {v : Mm} {e x : Int32} (h : IM v) (h1 : 8 ≤ e.toInt) (h2 : e.toInt < 38) : IM (up3 v 36 0 (Int32.toNatClampNeg e) x) := by
  have q : Int32.toNatClampNeg e = e.toInt.toNat := rfl
  refine h.upg ⟨by omega, by omega⟩ ?_
  show (rgG _).1 ≤ _ ∧ _ ≤ (rgG _).2
  rw [rgG_mid (by omega) (by omega)]; exact i_full x
theorem IM.uw {v : Mm} {e x : Int32} (h : IM v) (h1 : 38 ≤ e.toInt) (h2 : (e.toInt - 38) % 3 = 0) (h3 : 0 ≤ x.toInt) (h4 : x.toInt ≤ 5) : IM (up3 v 36 0 (Int32.toNatClampNeg e) x) := by
  have q : Int32.toNatClampNeg e = e.toInt.toNat := rfl
  refine h.upg ⟨by omega, by omega⟩ ?_
  show (rgG _).1 ≤ _ ∧ _ ≤ (rgG _).2
  rw [rgG_w (by omega) (by omega)]; exact ⟨h3, h4⟩
theorem IM.ug {v : Mm} {e x : Int32} (h : IM v) (h1 : 38 ≤ e.toInt) (h2 : (e.toInt - 38) % 3 = 1) (h3 : 0 ≤ x.toInt) (h4 : x.toInt ≤ 4) : IM (up3 v 36 0 (Int32.toNatClampNeg e) x) := by
  have q : Int32.toNatClampNeg e = e.toInt.toNat := rfl
  refine h.upg ⟨by omega, by omega⟩ ?_
  show (rgG _).1 ≤ _ ∧ _ ≤ (rgG _).2
  rw [rgG_g (by omega) (by omega)]; exact ⟨h3, h4⟩
theorem IM.ut {v : Mm} {e x : Int32} (h : IM v) (h1 : 38 ≤ e.toInt) (h2 : (e.toInt - 38) % 3 = 2) : IM (up3 v 36 0 (Int32.toNatClampNeg e) x) := by
  have q : Int32.toNatClampNeg e = e.toInt.toNat := rfl
  refine h.upg ⟨by omega, by omega⟩ ?_
  show (rgG _).1 ≤ _ ∧ _ ≤ (rgG _).2
  rw [rgG_t (by omega) (by omega)]; exact i_full x
theorem IM.u0 {v : Mm} {e : Int32} (h : IM v) (h1 : 5 ≤ e.toInt) : IM (up3 v 36 0 (Int32.toNatClampNeg e) 0) := by
  have q : Int32.toNatClampNeg e = e.toInt.toNat := rfl
  have e0 : (0 : Int32).toInt = 0 := by decide
  refine h.upg ⟨by omega, by omega⟩ ?_
  rw [e0]; exact rgG_0 _
theorem IM.um7 {v : Mm} {e x : Int32} (h : IM v) (h1 : 8 ≤ e.toInt) (h2 : e.toInt < 38) : IM (up3 v 37 0 (Int32.toNatClampNeg e) x) := by
  have q : Int32.toNatClampNeg e = e.toInt.toNat := rfl
  refine h.upo (by decide) ?_
  show (rgG _).1 ≤ _ ∧ _ ≤ (rgG _).2
  rw [rgG_mid (by omega) (by omega)]; exact i_full x
theorem IM.u07 {v : Mm} {j : Nat} (h : IM v) : IM (up3 v 37 0 j 0) := by
  have e0 : (0 : Int32).toInt = 0 := by decide
  refine h.upo (by decide) ?_
  rw [e0]; exact rgG_0 _
theorem gw_w {v : Mm} {e : Int32} (h : PW rgM v) (h1 : 38 ≤ e.toInt) (h2 : (e.toInt - 38) % 3 = 0) (_ : 0 ≤ e.toInt) : 0 ≤ (v 36 0 (Int32.toNatClampNeg e)).toInt ∧ (v 36 0 (Int32.toNatClampNeg e)).toInt ≤ 5 := by
  have q : Int32.toNatClampNeg e = e.toInt.toNat := rfl
  have := h 36 0 (Int32.toNatClampNeg e)
  rw [show rgM 36 (Int32.toNatClampNeg e) = rgG (Int32.toNatClampNeg e) from rfl, rgG_w (by omega) (by omega)] at this
  exact this
theorem gw_g {v : Mm} {e : Int32} (h : PW rgM v) (h1 : 38 ≤ e.toInt) (h2 : (e.toInt - 38) % 3 = 1) (_ : 0 ≤ e.toInt) : 0 ≤ (v 36 0 (Int32.toNatClampNeg e)).toInt ∧ (v 36 0 (Int32.toNatClampNeg e)).toInt ≤ 4 := by
  have q : Int32.toNatClampNeg e = e.toInt.toNat := rfl
  have := h 36 0 (Int32.toNatClampNeg e)
  rw [show rgM 36 (Int32.toNatClampNeg e) = rgG (Int32.toNatClampNeg e) from rfl, rgG_g (by omega) (by omega)] at this
  exact this
theorem IM_0 (fl : Nat → Int32) : IM (vM0 fl) := by
  have e0 : (0 : Int32).toInt = 0 := by decide
  refine ⟨fun t i j => ?_, Or.inl ⟨e0, e0⟩, fun s hs => Or.inl ⟨e0, e0⟩, fun s hs => Or.inl ⟨e0, e0⟩⟩
  by_cases q : t = 31
  · subst q; exact i_full _
  · have : vM0 fl t i j = 0 := by
      unfold vM0
      split
      · exact absurd rfl q
      · rfl
    rw [this, e0]
    unfold rgM
    split
    · repeat' split
      all_goals decide
    · decide
    · decide
    · exact rgG_0 _
    · exact rgG_0 _
    · exact rgG_0 _
    · exact rgG_0 _
    · decide
/-! copies -/
def CPY (v w : Mm) (A s B d n : Nat) : Prop := (∀ j, j < n → w B 0 (d + j) = v A 0 (s + j)) ∧ (∀ t i j, ¬ (t = B ∧ i = 0 ∧ d ≤ j ∧ j < d + n) → w t i j = v t i j)
theorem CPY.step {v w w1 : Mm} {A s B d k : Nat} (hc : CPY v w A s B d k) (e : w1 = up3 w B 0 (d + k) (w A 0 (s + k))) (hAB : A ≠ B) : CPY v w1 A s B d (k + 1) := by
  refine ⟨fun j hj => ?_, fun t i j hn => ?_⟩
  · rw [e]
    by_cases q : j = k
    · subst q; rw [up3_s]; exact hc.2 A 0 (s + j) (fun h => hAB h.1)
    · rw [up3_j (by omega)]; exact hc.1 j (by omega)
  · rw [e]; unfold up3
    rw [if_neg (fun h => hn ⟨h.1, h.2.1, by omega, by omega⟩)]
    exact hc.2 t i j (fun h => hn ⟨h.1, h.2.1, h.2.2.1, by omega⟩)
theorem rgM_sl (t s j : Nat) (ht : t = 39 ∨ t = 40) (hj : j < 65) : rgM t (65 * s + j) = rgG j := by
  have e : (65 * s + j) % 65 = j := by omega
  rcases ht with rfl | rfl
  · show rgG ((65 * s + j) % 65) = rgG j
    rw [e]
  · show rgG ((65 * s + j) % 65) = rgG j
    rw [e]
/-- a slice comes to be the gate -/
theorem CPY.to36 {v w : Mm} {A b : Nat} (h : IM v) (hA : A ≠ 36) (hr : ∀ j, j < 65 → rgM A (b + j) = rgG j) (hg : WGs v A b) (hc : CPY v w A b 36 0 65) : IM w := by
  refine ⟨fun t i j => ?_, hg.eq ?_ ?_, fun s hs => (h.2.2.1 s hs).eq (hc.2 _ _ _ (fun q => absurd q.1 (by decide))) (hc.2 _ _ _ (fun q => absurd q.1 (by decide))), fun s hs => (h.2.2.2 s hs).eq (hc.2 _ _ _ (fun q => absurd q.1 (by decide))) (hc.2 _ _ _ (fun q => absurd q.1 (by decide)))⟩
  · by_cases q : t = 36 ∧ i = 0 ∧ 0 ≤ j ∧ j < 0 + 65
    · obtain ⟨rfl, rfl, -, q⟩ := q
      have e1 := hc.1 j (by omega)
      rw [Nat.zero_add] at e1
      rw [e1]
      have := h.1 A 0 (b + j)
      rw [hr j (by omega)] at this
      exact this
    · rw [hc.2 t i j q]; exact h.1 t i j
  · exact hc.1 3 (by omega)
  · exact hc.1 4 (by omega)
/-- the gate comes to be a slice -/
theorem CPY.of36 {v w : Mm} {B s0 : Nat} (h : IM v) (hB : B = 39 ∨ B = 40) (hc : CPY v w 36 0 B (65 * s0) 65) : IM w := by
  have hne : (36 : Nat) ≠ B := by rcases hB with rfl | rfl <;> decide
  have hsl : ∀ t s, t = 39 ∨ t = 40 → WGs v t (65 * s) → WGs w t (65 * s) := by
    intro t s ht hw
    by_cases q : t = B ∧ s = s0
    · obtain ⟨rfl, rfl⟩ := q
      exact h.2.1.eq (hc.1 3 (by omega)) (hc.1 4 (by omega))
    · refine hw.eq (hc.2 _ _ _ (fun z => q ⟨z.1, ?_⟩)) (hc.2 _ _ _ (fun z => q ⟨z.1, ?_⟩))
      · have := z.2.2; omega
      · have := z.2.2; omega
  refine ⟨fun t i j => ?_, h.2.1.eq (hc.2 _ _ _ (fun z => hne z.1)) (hc.2 _ _ _ (fun z => hne z.1)), fun s hs => hsl 39 s (Or.inl rfl) (h.2.2.1 s hs), fun s hs => hsl 40 s (Or.inr rfl) (h.2.2.2 s hs)⟩
  by_cases q : t = B ∧ i = 0 ∧ 65 * s0 ≤ j ∧ j < 65 * s0 + 65
  · obtain ⟨rfl, rfl, q1, q2⟩ := q
    obtain ⟨k, rfl⟩ : ∃ k, j = 65 * s0 + k := ⟨j - 65 * s0, by omega⟩
    rw [hc.1 k (by omega), rgM_sl t s0 k hB (by omega), Nat.zero_add]
    exact h.1 36 0 k
  · rw [hc.2 t i j q]; exact h.1 t i j
/-- the gate comes to be what is tried -/
theorem CPY.of38 {v w : Mm} (h : IM v) (hc : CPY v w 36 0 38 0 65) : IM w := by
  refine ⟨fun t i j => ?_, h.2.1.eq (hc.2 _ _ _ (fun q => absurd q.1 (by decide))) (hc.2 _ _ _ (fun q => absurd q.1 (by decide))), fun s hs => (h.2.2.1 s hs).eq (hc.2 _ _ _ (fun q => absurd q.1 (by decide))) (hc.2 _ _ _ (fun q => absurd q.1 (by decide))), fun s hs => (h.2.2.2 s hs).eq (hc.2 _ _ _ (fun q => absurd q.1 (by decide))) (hc.2 _ _ _ (fun q => absurd q.1 (by decide)))⟩
  by_cases q : t = 38
  · subst q; exact i_full _
  · rw [hc.2 t i j (fun z => q z.1)]; exact h.1 t i j
