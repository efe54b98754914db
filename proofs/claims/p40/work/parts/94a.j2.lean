/-! THE CALLS KEEP the gate, too -/
theorem no_in {S : List Nat} {lo hi k : Nat} (h : (S.all fun x => decide (¬ (lo ≤ x ∧ x ≤ hi))) = true) (h1 : lo ≤ k) (h2 : k ≤ hi) : S.contains k = false := by
  cases q : S.contains k with
  | false => rfl
  | true => exact absurd ⟨h1, h2⟩ (of_decide_eq_true (List.all_eq_true.mp h k (List.contains_iff_mem.mp q)))
theorem FR.at {S : List Nat} {v w : Mm} (h : FR S v w) {t : Nat} (ht : t ≠ 0 ∧ t ≠ 30 ∧ t ≠ 4 ∧ t ≠ 15) (hc : S.contains t = false) (i j : Nat) : w t i j = v t i j :=
  h t i j (by rw [ckey_a ht]; exact hc)
theorem GA.fr {S T : List Nat} {vx vm wx wm : Mm} (h : GA vx vm) (hx : FR S vx wx) (hm : FR T vm wm) (h1 : (S.all fun x => decide (¬ (6 ≤ x ∧ x ≤ 14))) = true) (h2 : S.contains 401 = false ∧ S.contains 402 = false ∧ S.contains 107 = false ∧ S.contains 400 = false) (h3 : T.contains 36 = false ∧ T.contains 39 = false ∧ T.contains 40 = false ∧ T.contains 41 = false ∧ T.contains 207 = false ∧ T.contains 217 = false) : GA wx wm := by
  have xx : ∀ t i j, 6 ≤ t → t ≤ 14 → wx t i j = vx t i j := fun t i j q1 q2 => hx.at (by omega) (no_in h1 q1 q2) i j
  have m36 : ∀ j, wm 36 0 j = vm 36 0 j := fun j => hm.at (by decide) h3.1 0 j
  have m39 : ∀ j, wm 39 0 j = vm 39 0 j := fun j => hm.at (by decide) h3.2.1 0 j
  have m40 : ∀ j, wm 40 0 j = vm 40 0 j := fun j => hm.at (by decide) h3.2.2.1 0 j
  have m41 : ∀ j, wm 41 0 j = vm 41 0 j := fun j => hm.at (by decide) h3.2.2.2.1 0 j
  refine ⟨⟨h.1.1.sc (fun t j q1 q2 => xx t 0 j (by omega) (by omega)) (fun j _ => m36 j), h.1.2.1.mv (fun j _ _ => xx 10 0 j (by omega) (by omega)) (fun j _ => xx 11 0 j (by omega) (by omega)) (fun j _ => xx 12 0 j (by omega) (by omega)) (fun j _ => xx 13 0 j (by omega) (by omega)) (fun j _ => xx 14 0 j (by omega) (by omega)) (fun j _ => m36 _), h.1.2.2.sc (fun t j q1 q2 => xx t 0 j (by omega) (by omega)) (fun j hj => ?_) (fun t i j q1 q2 q3 => xx t i j (by omega) (by omega)) (hm 30 0 17 h3.2.2.2.2.2) m39⟩, h.2.1.sc (fun t i j q1 q2 q3 => xx t i j q1 q2) m40 m41, ?_⟩
  · rcases (show j = 0 ∨ j = 1 ∨ j = 2 by omega) with rfl | rfl | rfl
    · exact hx 15 0 0 h2.2.2.2
    · exact hx 15 0 1 h2.1
    · exact hx 15 0 2 h2.2.1
  · rw [hx 0 0 7 h2.2.2.1, hm 30 0 7 h3.2.2.2.2.1]; exact h.2.2
theorem gaQ_gate {vx vm : Mm} (h : GA vx vm) {a b : Int32 × Mm} (k : GTQ vx vm a b) : gaQ a b := by
  obtain ⟨k1, k2⟩ := k
  refine ⟨k1, ?_⟩
  rcases k2 with ⟨f1, f2, f3⟩ | ⟨⟨s1, s2, s3, s4⟩, f2, f3⟩
  · have xx : ∀ t i j, 6 ≤ t → t ≤ 14 → i ≠ 1 → a.2 t i j = vx t i j := fun t i j q1 q2 q3 => f2 t i j (by omega) (by omega) (by omega) (by omega) (by omega)
    have mm : ∀ t j, 31 ≤ t → t < 50 → t ≠ 37 → b.2 t 0 j = vm t 0 j := fun t j q1 q2 q3 => f3 t 0 j (by omega) (by omega) (by omega) (by omega)
    refine ⟨⟨h.1.1.sc (fun t j q1 q2 => xx t 0 j (by omega) (by omega) (by omega)) (fun j _ => mm 36 j (by omega) (by omega) (by omega)), h.1.2.1.mv (fun j _ _ => xx 10 0 j (by omega) (by omega) (by omega)) (fun j _ => xx 11 0 j (by omega) (by omega) (by omega)) (fun j _ => xx 12 0 j (by omega) (by omega) (by omega)) (fun j _ => xx 13 0 j (by omega) (by omega) (by omega)) (fun j _ => xx 14 0 j (by omega) (by omega) (by omega)) (fun j _ => mm 36 _ (by omega) (by omega) (by omega)), h.1.2.2.sc (fun t j q1 q2 => xx t 0 j (by omega) (by omega) (by omega)) (fun j hj => f2 15 0 j (by omega) (by omega) (by omega) (by omega) (by omega)) (fun t i j q1 q2 q3 => xx t i j (by omega) (by omega) (by omega)) (f3 30 0 17 (by omega) (by omega) (by omega) (by omega)) (fun j => mm 39 j (by omega) (by omega) (by omega))⟩, h.2.1.sc (fun t i j q1 q2 q3 => xx t i j (by omega) (by omega) (by omega)) (fun j => mm 40 j (by omega) (by omega) (by omega)) (fun j => mm 41 j (by omega) (by omega) (by omega)), f1⟩
  · have mm : ∀ t j, 31 ≤ t → t < 50 → t ≠ 37 → t ≠ 36 → b.2 t 0 j = vm t 0 j := fun t j q1 q2 q3 q4 => f3 t 0 j (by omega) (by omega) (by omega) (by omega) (by omega)
    have c0 : Int32.toNatClampNeg (a.2 15 0 2) = 0 := by rw [s3]; decide
    refine ⟨⟨s1, s2, ⟨by rw [s3, s4], ?_, ?_, fun k hk => ?_⟩⟩, h.2.1.sc (fun t i j q1 q2 q3 => f2 t i j (by omega) (by omega) (by omega) (by omega) (by omega)) (fun j => mm 40 j (by omega) (by omega) (by omega) (by omega)) (fun j => mm 41 j (by omega) (by omega) (by omega) (by omega)), ?_⟩
    · rw [f2 15 0 1 (by omega) (by omega) (by omega) (by omega) (by omega)]; exact h.1.2.2.2.1
    · rw [s3]; decide
    · rw [c0] at hk; exact absurd hk (Nat.not_lt_zero k)
    · rw [f2 0 0 7 (by omega) (by omega) (by omega) (by omega) (by omega), f3 30 0 7 (by omega) (by omega) (by omega) (by omega) (by omega)]; exact h.2.2
theorem gaQ_undo {vx vm : Mm} (h : GA vx vm) {a b : Int32 × Mm} (k : a.1 = b.1 ∧ RSt a.2 0 b.2 36 0 ∧ RMo a.2 0 b.2 36 0 ∧ RAc a.2 b.2 ∧ (∀ t i j, ¬ (i = 0 ∧ 10 ≤ t ∧ t ≤ 14) → t ≠ 15 → a.2 t i j = vx t i j) ∧ ∀ t i j, t ≠ 36 → ¬ (t = 30 ∧ i = 0 ∧ j = 17) → b.2 t i j = vm t i j) : gaQ a b := by
  obtain ⟨k1, k2, k3, k4, k5, k6⟩ := k
  refine ⟨k1, ⟨k2, k3, k4⟩, h.2.1.sc (fun t i j q1 q2 q3 => k5 t i j (by omega) (by omega)) (fun j => k6 40 0 j (by decide) (by omega)) (fun j => k6 41 0 j (by decide) (by omega)), ?_⟩
  rw [k5 0 0 7 (by omega) (by decide), k6 30 0 7 (by decide) (by omega)]; exact h.2.2
def J2 (vx vm : Mm) : Prop := J1 vx vm ∧ GA vx vm
theorem j2_of {oX oM : Option (Int32 × Mm)} {C1 C : Prop} (h1 : ∃ (r1 : Int32) (vx1 : Mm) (r2 : Int32) (vm1 : Mm), oX = some (r1, vx1) ∧ oM = some (r2, vm1) ∧ J1 vx1 vm1 ∧ (C1 → r1 = r2)) (hg : rel oX oM (fun a b => GA a.2 b.2 ∧ (C → a.1 = b.1))) : ∃ (r1 : Int32) (vx1 : Mm) (r2 : Int32) (vm1 : Mm), oX = some (r1, vx1) ∧ oM = some (r2, vm1) ∧ J2 vx1 vm1 ∧ (C → r1 = r2) := by
  obtain ⟨r1, vx1, r2, vm1, e1, e2, hj, -⟩ := h1
  obtain ⟨g1, g2⟩ := hg _ _ e1 e2
  exact ⟨r1, vx1, r2, vm1, e1, e2, ⟨hj, g1⟩, g2⟩
theorem j2_ofC {oX oM : Option (Int32 × Mm)} {C1 C : Prop} (h1 : ∃ (r1 : Int32) (vx1 : Mm) (r2 : Int32) (vm1 : Mm), oX = some (r1, vx1) ∧ oM = some (r2, vm1) ∧ J1 vx1 vm1 ∧ (C1 → r1 = r2)) (hc : C → C1) (hg : rel oX oM (fun a b => GA a.2 b.2)) : ∃ (r1 : Int32) (vx1 : Mm) (r2 : Int32) (vm1 : Mm), oX = some (r1, vx1) ∧ oM = some (r2, vm1) ∧ J2 vx1 vm1 ∧ (C → r1 = r2) := by
  obtain ⟨r1, vx1, r2, vm1, e1, e2, hj, h2⟩ := h1
  exact ⟨r1, vx1, r2, vm1, e1, e2, ⟨hj, hg _ _ e1 e2⟩, fun q => h2 (hc q)⟩
theorem ga_fr {S T : List Nat} {vx vm : Mm} {oX oM : Option (Int32 × Mm)} (h : GA vx vm) (fx : pk oX (fun z => FR S vx z.2)) (fm : pk oM (fun z => FR T vm z.2)) (h1 : (S.all fun x => decide (¬ (6 ≤ x ∧ x ≤ 14))) = true) (h2 : S.contains 401 = false ∧ S.contains 402 = false ∧ S.contains 107 = false ∧ S.contains 400 = false) (h3 : T.contains 36 = false ∧ T.contains 39 = false ∧ T.contains 40 = false ∧ T.contains 41 = false ∧ T.contains 207 = false ∧ T.contains 217 = false) : rel oX oM (fun a b => GA a.2 b.2) :=
  fun a b e1 e2 => h.fr (fx a e1) (fm b e2) h1 h2 h3
theorem rel_gaQ {C : Prop} {oX oM : Option (Int32 × Mm)} (h : rel oX oM gaQ) : rel oX oM (fun a b => GA a.2 b.2 ∧ (C → a.1 = b.1)) := h.mono (fun a b k => ⟨k.2, fun _ => k.1⟩)
theorem rel_map {C : Prop} {vx vm : Mm} {o1 o2 : Option Int32} (h : GA vx vm) (k : C → rel o1 o2 (fun a b => a = b)) : rel (o1.map (fun r => (r, vx))) (o2.map (fun r => (r, vm))) (fun a b => GA a.2 b.2 ∧ (C → a.1 = b.1)) := by
  intro a b e1 e2
  cases q1 : o1 with
  | none => rw [q1] at e1; cases e1
  | some x =>
    cases q2 : o2 with
    | none => rw [q2] at e2; cases e2
    | some y =>
      rw [q1] at e1
      rw [q2] at e2
      cases e1
      cases e2
      exact ⟨h, fun c => k c x y q1 q2⟩
theorem GA_0 (fl : Nat → Int32) : GA vX0 (vM0 fl) := by
  have e0 : (0 : Int32).toInt = 0 := by decide
  have z6 : ∀ i j, vX0 6 i j = 0 := fun i j => rfl
  have m36 : ∀ j, vM0 fl 36 0 j = 0 := fun j => rfl
  have ag : (allg 0).toInt = 0 := by decide
  refine ⟨⟨⟨rfl, rfl, rfl, rfl, fun k _ hk => absurd hk (by rw [z6, e0]; omega), fun g _ hg => absurd hg (by rw [z6, e0]; omega)⟩, ⟨rfl, rfl, rfl, rfl, fun g _ => ?_, fun k _ hk => absurd hk (by rw [m36, e0]; omega), ?_, ?_⟩, rfl, ?_, ?_, fun k hk => ?_⟩, fun k _ => Or.inl ⟨rfl, rfl⟩, rfl⟩
  · show (0 : Int32) = if (g : Int) < (vM0 fl 36 0 (0 + 4)).toInt then (vM0 fl 36 0 (0 + (26 + 3 * g + 2))) else 0
    rw [m36, m36, ite_self]
  · rw [m36, e0]; omega
  · rw [m36, m36, e0, ag]; omega
  · show 0 ≤ (vX0 15 0 1).toInt ∧ (vX0 15 0 1).toInt ≤ 23
    rw [show vX0 15 0 1 = 0 from rfl, e0]; omega
  · show 0 ≤ (vX0 15 0 2).toInt ∧ (vX0 15 0 2).toInt ≤ 24
    rw [show vX0 15 0 2 = 0 from rfl, e0]; omega
  · have hk : k < Int32.toNatClampNeg (vX0 15 0 2) := hk
    rw [show vX0 15 0 2 = 0 from rfl, tc_0] at hk
    exact absurd hk (Nat.not_lt_zero k)
theorem J2_0 (fl : Nat → Int32) (hfl : ∀ j, j < 8 → fl j = (-1000000)) : J2 vX0 (vM0 fl) := ⟨J1_0 fl hfl, GA_0 fl⟩
