/-! steps of the two readers -/
theorem kb2_assoc {β : Type} (o : Option (Int32 × Mm)) (f : Int32 → Mm → Option (Int32 × Mm)) (g : Int32 → Mm → Option β) : kb2 (kb2 o f) g = kb2 o (fun r v => kb2 (f r v) g) := by
  cases o <;> rfl
theorem kb2_bind {β γ : Type} (o : Option γ) (f : γ → Option (Int32 × Mm)) (g : Int32 → Mm → Option β) : kb2 (Option.bind o f) g = Option.bind o (fun r => kb2 (f r) g) := by
  cases o <;> rfl
theorem kb2_ite {β : Type} {c : Prop} {d : Decidable c} (A B : Option (Int32 × Mm)) (g : Int32 → Mm → Option β) : kb2 (@ite _ c d A B) g = @ite _ c d (kb2 A g) (kb2 B g) := by
  by_cases h : c
  · rw [if_pos h, if_pos h]
  · rw [if_neg h, if_neg h]
theorem kb2_id (o : Option (Int32 × Mm)) : kb2 o (fun r v => some (r, v)) = o := by
  cases o <;> rfl
theorem kb2_sm {β : Type} (a : Int32) (b : Mm) (g : Int32 → Mm → Option β) : kb2 (some (a, b)) g = g a b := rfl
theorem bind1 {α : Type} (A B : Option α) : Option.bind (some (1 : Int32)) (fun r => if r = 0 then A else B) = B := (if_neg (by decide) : (if (1 : Int32) = 0 then A else B) = B)
theorem bind0 {α : Type} (A B : Option α) : Option.bind (some (0 : Int32)) (fun r => if r = 0 then A else B) = A := (if_pos rfl : (if (0 : Int32) = 0 then A else B) = A)
theorem ite_and2 {α : Type} {p q : Prop} [Decidable p] [Decidable q] (A B : α) : (if p then (if q then A else B) else B) = if p ∧ q then A else B := by
  by_cases h1 : p
  · by_cases h2 : q
    · rw [if_pos h1, if_pos h2, if_pos ⟨h1, h2⟩]
    · rw [if_pos h1, if_neg h2, if_neg (fun z => h2 z.2)]
  · rw [if_neg h1, if_neg (fun z => h1 z.1)]
def flt (v : Mm) (k : Int32) : Mm := up3 (up3 v 4 0 3 k) 4 0 4 (v 4 0 5)
theorem q_faulty (v : Mm) (k : Int32) : g_X6_faulty v k = some (0, flt v k) := by
  show some ((0 : Int32), up3 (up3 v 4 0 3 k) 4 0 4 ((up3 v 4 0 3 k) 4 0 5)) = _
  rw [up3_j (by decide)]; rfl
theorem flt_fr (v : Mm) (k : Int32) : FR [303, 304] v (flt v k) := ((FR.refl _ _).upf (by decide)).upf (by decide)
theorem flt_3 (v : Mm) (k : Int32) : flt v k 4 0 3 = k := (up3_j (by decide)).trans up3_s
theorem flt_4 (v : Mm) (k : Int32) : flt v k 4 0 4 = v 4 0 5 := up3_s
/-- both stand at the same place of the same text, no fault yet -/
def INV (vx vm : Mm) : Prop := RT vx vm ∧ (vx 4 0 2).toInt ≤ 100 ∧ 0 ≤ (vx 4 0 5).toInt ∧ (vx 4 0 5).toInt ≤ (vx 4 0 2).toInt ∧ (∀ k, 0 ≤ (vx 5 0 k).toInt ∧ (vx 5 0 k).toInt ≤ 255) ∧ vm 30 0 8 = -1 ∧ vm 30 0 10 = vx 4 0 5 ∧ TOK (vx 4 0 2) (vx 5 0) (vx 4 0 5) (vm 30 0 11) (vm 30 0 12) (vm 30 0 9)
/-- both have found the same fault -/
def FLT (vx vm : Mm) : Prop := RT vx vm ∧ vx 4 0 3 = vm 30 0 7 ∧ vx 4 0 4 = vm 30 0 8 ∧ 0 ≤ (vm 30 0 8).toInt
theorem row_eq {v w : Mm} {t : Nat} (h : ∀ j, w t 0 j = v t 0 j) : w t 0 = v t 0 := funext h
theorem INV.fr {S T : List Nat} {vx vm wx wm : Mm} (h : INV vx vm) (hx : FR S vx wx) (hm : FR T vm wm) (h1 : S.contains 302 = false ∧ S.contains 305 = false ∧ S.contains 5 = false) (h2 : T.contains 206 = false ∧ T.contains 208 = false ∧ T.contains 209 = false ∧ T.contains 210 = false ∧ T.contains 211 = false ∧ T.contains 212 = false ∧ T.contains 35 = false) : INV wx wm := by
  obtain ⟨i1, i2, i3, i4, i5, i6, i7, i8⟩ := h
  have a2 : wx 4 0 2 = vx 4 0 2 := hx 4 0 2 h1.1
  have a5 : wx 4 0 5 = vx 4 0 5 := hx 4 0 5 h1.2.1
  have ab : wx 5 0 = vx 5 0 := row_eq (fun j => hx 5 0 j h1.2.2)
  have m8 : wm 30 0 8 = vm 30 0 8 := hm 30 0 8 h2.2.1
  have m9 : wm 30 0 9 = vm 30 0 9 := hm 30 0 9 h2.2.2.1
  have m10 : wm 30 0 10 = vm 30 0 10 := hm 30 0 10 h2.2.2.2.1
  have m11 : wm 30 0 11 = vm 30 0 11 := hm 30 0 11 h2.2.2.2.2.1
  have m12 : wm 30 0 12 = vm 30 0 12 := hm 30 0 12 h2.2.2.2.2.2.1
  refine ⟨i1.fr hx hm ⟨h1.1, h1.2.2⟩ ⟨h2.1, h2.2.2.2.2.2.2⟩, ?_, ?_, ?_, ?_, ?_, ?_, ?_⟩
  · rw [a2]; exact i2
  · rw [a5]; exact i3
  · rw [a5, a2]; exact i4
  · rw [ab]; exact i5
  · rw [m8]; exact i6
  · rw [m10, a5]; exact i7
  · rw [a2, ab, a5, m11, m12, m9]; exact i8
theorem FLT.fr {S T : List Nat} {vx vm wx wm : Mm} (h : FLT vx vm) (hx : FR S vx wx) (hm : FR T vm wm) (h1 : S.contains 302 = false ∧ S.contains 303 = false ∧ S.contains 304 = false ∧ S.contains 5 = false) (h2 : T.contains 206 = false ∧ T.contains 207 = false ∧ T.contains 208 = false ∧ T.contains 35 = false) : FLT wx wm := by
  obtain ⟨i1, i2, i3, i4⟩ := h
  refine ⟨i1.fr hx hm ⟨h1.1, h1.2.2.2⟩ ⟨h2.1, h2.2.2.2⟩, ?_, ?_, ?_⟩
  · rw [hx 4 0 3 h1.2.1, hm 30 0 7 h2.2.1]; exact i2
  · rw [hx 4 0 4 h1.2.2.1, hm 30 0 8 h2.2.2.1]; exact i3
  · rw [hm 30 0 8 h2.2.2.1]; exact i4
/-! what the reference's token says of the byte -/
theorem INV.here {vx vm : Mm} (h : INV vx vm) : -1 ≤ (hereF vx).toInt ∧ (hereF vx).toInt ≤ 255 ∧ ((hereF vx).toInt = -1 ∨ (vx 4 0 5).toInt < (vx 4 0 2).toInt) := by
  have e : (-1 : Int32).toInt = -1 := by decide
  unfold hereF
  by_cases c : vx 4 0 2 ≤ vx 4 0 5
  · rw [if_pos c, e]; omega
  · rw [if_neg c]
    have := h.2.2.2.2.1 (Int32.toNatClampNeg (vx 4 0 5))
    have := i_nle c
    omega
theorem tk_le (c : Int32) : tk c = 0 ∨ tk c = 1 ∨ tk c = 3 ∨ tk c = 4 ∨ tk c = 5 := by
  unfold tk
  repeat' split
  all_goals simp
theorem INV.tok {vx vm : Mm} (h : INV vx vm) : (¬ fig (hereF vx) ∧ vm 30 0 11 = tk (hereF vx) ∧ vm 30 0 12 = hereF vx ∧ vm 30 0 9 = vx 4 0 5 + (if tk (hereF vx) = 0 then 0 else 1)) ∨ (fig (hereF vx) ∧ (vm 30 0 11 = 2 ∨ vm 30 0 11 = 5)) := by
  have ht := h.2.2.2.2.2.2.2
  by_cases c : fig (hereF vx)
  · refine Or.inr ⟨c, ?_⟩
    by_cases c1 : fig (bt (vx 4 0 2) (vx 5 0) (vx 4 0 5 + 1))
    · by_cases c2 : fig (bt (vx 4 0 2) (vx 5 0) (vx 4 0 5 + 1 + 1))
      · exact Or.inr (ht.2.2.2 c c1 c2)
      · exact Or.inl (ht.2.2.1 c c1 c2).1
    · exact Or.inl (ht.2.1 c c1).1
  · obtain ⟨q1, q2, q3⟩ := ht.1 c
    exact Or.inl ⟨c, q2, q1, q3⟩
theorem tk_1 {c : Int32} (h : 97 ≤ c.toInt ∧ c.toInt ≤ 122) : tk c = 1 := by
  unfold tk
  have e0 : (0 : Int32).toInt = 0 := by decide
  rw [if_pos (Int32.le_iff_toInt_le.mpr (by omega)), if_pos h]
theorem tk_n1 {c : Int32} (h : ¬ (97 ≤ c.toInt ∧ c.toInt ≤ 122)) : tk c ≠ 1 := by
  unfold tk
  rw [if_neg h]
  repeat' split
  all_goals decide
theorem INV.letter {vx vm : Mm} (h : INV vx vm) : vm 30 0 11 = 1 ↔ (97 ≤ (hereF vx).toInt ∧ (hereF vx).toInt ≤ 122) := by
  rcases h.tok with ⟨c, q, -, -⟩ | ⟨c, q⟩
  · rw [q]
    by_cases d : 97 ≤ (hereF vx).toInt ∧ (hereF vx).toInt ≤ 122
    · exact ⟨fun _ => d, fun _ => tk_1 d⟩
    · exact ⟨fun z => absurd z (tk_n1 d), fun z => absurd z d⟩
  · unfold fig at c
    refine ⟨fun z => ?_, fun z => ?_⟩
    · rw [z] at q; exact absurd q (by decide)
    · omega
theorem INV.lval {vx vm : Mm} (h : INV vx vm) (h1 : vm 30 0 11 = 1) : vm 30 0 12 = hereF vx := by
  rcases h.tok with ⟨-, -, q, -⟩ | ⟨-, q⟩
  · exact q
  · rw [h1] at q; exact absurd q (by decide)
theorem INV.chr {vx vm : Mm} (h : INV vx vm) {s : Int32} (hs : 97 ≤ s.toInt ∧ s.toInt ≤ 122) : (vm 30 0 11 = 1 ∧ vm 30 0 12 = s) ↔ hereF vx = s := by
  refine ⟨fun z => (h.lval z.1).symm.trans z.2, fun z => ?_⟩
  have q : vm 30 0 11 = 1 := h.letter.mpr (by rw [z]; exact hs)
  exact ⟨q, (h.lval q).trans z⟩
theorem INV.comma {vx vm : Mm} (h : INV vx vm) : vm 30 0 11 = 3 ↔ hereF vx = 44 := by
  rcases h.tok with ⟨c, q, -, -⟩ | ⟨c, q⟩
  · rw [q]
    refine ⟨fun z => ?_, fun z => by rw [z]; decide⟩
    unfold tk at z
    by_cases d0 : 0 ≤ hereF vx
    · rw [if_pos d0] at z
      by_cases d1 : 97 ≤ (hereF vx).toInt ∧ (hereF vx).toInt ≤ 122
      · rw [if_pos d1] at z; exact absurd z (by decide)
      · rw [if_neg d1] at z
        by_cases d2 : hereF vx = 44
        · exact d2
        · rw [if_neg d2] at z
          by_cases d3 : hereF vx = 59
          · rw [if_pos d3] at z; exact absurd z (by decide)
          · rw [if_neg d3] at z; exact absurd z (by decide)
    · rw [if_neg d0] at z; exact absurd z (by decide)
  · refine ⟨fun z => ?_, fun z => ?_⟩
    · rw [z] at q; exact absurd q (by decide)
    · unfold fig at c; rw [z] at c; exact absurd c (by decide)
theorem INV.stop {vx vm : Mm} (h : INV vx vm) : vm 30 0 11 = 4 ↔ hereF vx = 59 := by
  rcases h.tok with ⟨c, q, -, -⟩ | ⟨c, q⟩
  · rw [q]
    refine ⟨fun z => ?_, fun z => by rw [z]; decide⟩
    unfold tk at z
    by_cases d0 : 0 ≤ hereF vx
    · rw [if_pos d0] at z
      by_cases d1 : 97 ≤ (hereF vx).toInt ∧ (hereF vx).toInt ≤ 122
      · rw [if_pos d1] at z; exact absurd z (by decide)
      · rw [if_neg d1] at z
        by_cases d2 : hereF vx = 44
        · rw [if_pos d2] at z; exact absurd z (by decide)
        · rw [if_neg d2] at z
          by_cases d3 : hereF vx = 59
          · exact d3
          · rw [if_neg d3] at z; exact absurd z (by decide)
    · rw [if_neg d0] at z; exact absurd z (by decide)
  · refine ⟨fun z => ?_, fun z => ?_⟩
    · rw [z] at q; exact absurd q (by decide)
    · unfold fig at c; rw [z] at c; exact absurd c (by decide)
theorem INV.endd {vx vm : Mm} (h : INV vx vm) : vm 30 0 11 = 0 ↔ hereF vx = -1 := by
  have e0 : (0 : Int32).toInt = 0 := by decide
  have e1 : (-1 : Int32).toInt = -1 := by decide
  rcases h.tok with ⟨c, q, -, -⟩ | ⟨c, q⟩
  · rw [q]
    refine ⟨fun z => ?_, fun z => by rw [z]; decide⟩
    by_cases d0 : 0 ≤ hereF vx
    · unfold tk at z
      rw [if_pos d0] at z
      by_cases d1 : 97 ≤ (hereF vx).toInt ∧ (hereF vx).toInt ≤ 122
      · rw [if_pos d1] at z; exact absurd z (by decide)
      · rw [if_neg d1] at z
        by_cases d2 : hereF vx = 44
        · rw [if_pos d2] at z; exact absurd z (by decide)
        · rw [if_neg d2] at z
          by_cases d3 : hereF vx = 59
          · rw [if_pos d3] at z; exact absurd z (by decide)
          · rw [if_neg d3] at z; exact absurd z (by decide)
    · have := i_nle d0
      have := h.here
      exact Int32.toInt_inj.mp (by omega)
  · refine ⟨fun z => ?_, fun z => ?_⟩
    · rw [z] at q; exact absurd q (by decide)
    · unfold fig at c; rw [z] at c; exact absurd c (by decide)
/-! takes -/
theorem q_well {v : Mm} (h : v 30 0 8 = -1) : g_X8_isWell v = some 1 := by
  unfold g_X8_isWell; rw [h]; rfl
theorem q_ill {v : Mm} (h : 0 ≤ (v 30 0 8).toInt) : g_X8_isWell v = some 0 := by
  unfold g_X8_isWell
  exact if_pos (Int32.le_iff_toInt_le.mpr (show (0 : Int32).toInt ≤ (v 30 0 8).toInt from h))
theorem q_takes_t {v : Mm} (h : v 30 0 8 = -1) (k : Int32) : g_X8_takes v 1 k = Option.bind (g_X8_advances v) (fun v8 => some (v 30 0 12, v8)) := by
  unfold g_X8_takes; rw [q_well h]; rfl
theorem q_takes_f {v : Mm} (h : v 30 0 8 = -1) (k : Int32) : g_X8_takes v 0 k = some (0, up3 (up3 v 30 0 8 (v 30 0 10)) 30 0 7 k) := by
  unfold g_X8_takes; rw [q_well h]; rfl
theorem q_takes_s {v : Mm} (h : 0 ≤ (v 30 0 8).toInt) (a k : Int32) : g_X8_takes v a k = some (0, v) := by
  unfold g_X8_takes; rw [q_ill h]; rfl
theorem FLT_of {vx vm vx' vm' : Mm} {S : List Nat} {k : Int32} (hI : INV vx vm) (hx : FR S vx vx') (hS : S.contains 302 = false ∧ S.contains 5 = false) (h3 : vx' 4 0 3 = k) (h4 : vx' 4 0 4 = vx 4 0 5) (hm : vm' = up3 (up3 vm 30 0 8 (vm 30 0 10)) 30 0 7 k) : FLT vx' vm' ∧ FR [207, 208] vm vm' := by
  have F : FR [207, 208] vm vm' := by rw [hm]; exact ((FR.refl _ _).upf (by decide)).upf (by decide)
  have e7 : vm' 30 0 7 = k := by rw [hm]; exact up3_s
  have e8 : vm' 30 0 8 = vx 4 0 5 := by rw [hm, up3_j (by decide), up3_s]; exact hI.2.2.2.2.2.2.1
  refine ⟨⟨hI.1.fr hx F hS (by decide), ?_, ?_, ?_⟩, F⟩
  · rw [h3, e7]
  · rw [h4, e8]
  · rw [e8]; exact hI.2.2.1
theorem tk_bad {γ δ : Type} {vx vm vx' : Mm} {S : List Nat} {k : Int32} {A : Option γ} {K : Int32 → Mm → Option δ} {Q : γ → δ → Prop} (hI : INV vx vm) (hx : FR S vx vx') (hS : S.contains 302 = false ∧ S.contains 5 = false) (h3 : vx' 4 0 3 = k) (h4 : vx' 4 0 4 = vx 4 0 5) (hK : ∀ vm', FLT vx' vm' → FR [207, 208] vm vm' → rel A (K 0 vm') Q) : rel A (kb2 (g_X8_takes vm 0 k) K) Q := by
  rw [q_takes_f hI.2.2.2.2.2.1]
  obtain ⟨q1, q2⟩ := FLT_of hI hx hS h3 h4 rfl
  exact hK _ q1 q2
theorem tk_ok {γ δ : Type} {vx vm vx' : Mm} {S : List Nat} {k : Int32} {A : Option γ} {K : Int32 → Mm → Option δ} {Q : γ → δ → Prop} (hI : INV vx vm) (hx : FR S vx vx') (hS : S.contains 302 = false ∧ S.contains 5 = false) (hy : vx' 4 0 5 = vm 30 0 9) (h0 : 0 ≤ (vx' 4 0 5).toInt) (h1 : (vx' 4 0 5).toInt ≤ (vx 4 0 2).toInt) (hK : ∀ vm', INV vx' vm' → FR sTK vm vm' → rel A (K (vm 30 0 12) vm') Q) : rel A (kb2 (g_X8_takes vm 1 k) K) Q := by
  rw [q_takes_t hI.2.2.2.2.2.1, kb2_bind]
  have i2 := hI.2.1
  refine rel_bindR (p_adv vm (by rw [← hy]; exact h0) (by rw [← hy]; omega) (by rw [← hI.1.1]; exact i2)) (fun z hz => ?_)
  obtain ⟨z1, z2, z3⟩ := hz
  refine hK z ⟨hI.1.fr hx z1 hS (by decide), ?_, h0, ?_, ?_, ?_, ?_, ?_⟩ z1
  · rw [hx 4 0 2 hS.1]; exact i2
  · rw [hx 4 0 2 hS.1]; exact h1
  · rw [row_eq (fun j => hx 5 0 j hS.2)]; exact hI.2.2.2.2.1
  · rw [z1 30 0 8 (by decide)]; exact hI.2.2.2.2.2.1
  · rw [z2, hy]
  · have e5 : vx' 5 0 = vm 35 0 := funext (fun j => (hx 5 0 j hS.2).trans (hI.1.2 j))
    rw [hx 4 0 2 hS.1, e5, hI.1.1, hy]; exact z3
/-! a sign -/
theorem sg {γ δ : Type} {B : Option δ} {F : Int32 → Mm → Option γ} {Q : γ → δ → Prop} (vx : Mm) (s : Int32) (hok : hereF vx = s → rel (F 1 (up3 vx 4 0 5 (vx 4 0 5 + 1))) B Q) (hbad : hereF vx ≠ s → rel (F 0 (flt vx 1)) B Q) : rel (kb2 (g_X6_readSign vx s) F) B Q := by
  unfold g_X6_readSign
  rw [kb2_bind]
  refine rel_bindL (p_here vx) (fun r er => ?_)
  rw [er, kb2_ite]
  refine rel_iteL _ (fun c => hok c) (fun c => ?_)
  rw [kb2_id, q_faulty]
  exact hbad c
theorem st_sign {γ δ : Type} {vx vm : Mm} {F : Int32 → Mm → Option γ} {K : Mm → Option δ} {Q : γ → δ → Prop} {s : Int32} {C : Prop} {d : Decidable C} (hI : INV vx vm) (hs1 : ¬ fig s) (hs2 : tk s ≠ 0) (hC : C ↔ hereF vx = s) (hok : ∀ vx' vm', INV vx' vm' → FR [305] vx vx' → FR sTK vm vm' → rel (F 1 vx') (K vm') Q) (hbad : ∀ vx' vm', FLT vx' vm' → FR [303, 304] vx vx' → FR [207, 208] vm vm' → rel (F 0 vx') (K vm') Q) : rel (kb2 (g_X6_readSign vx s) F) (@ite _ C d (kb2 (g_X8_takes vm 1 1) (fun _ v => K v)) (kb2 (g_X8_takes vm 0 1) (fun _ v => K v))) Q := by
  have e1 : (1 : Int32).toInt = 1 := by decide
  refine sg vx s (fun c => ?_) (fun c => ?_)
  · rw [if_pos (hC.mpr c)]
    have hh := hI.here
    have i3 := hI.2.2.1
    have i2 := hI.2.1
    have n1 : ¬ (hereF vx).toInt = -1 := fun q => hs2 (by
      have : s = -1 := by rw [← c]; exact Int32.toInt_inj.mp (q.trans (by decide))
      rw [this]; decide)
    have ex := sp_addx (vx 4 0 5) 1 (by omega)
    rcases hI.tok with ⟨-, -, -, q⟩ | ⟨q, -⟩
    · rw [c, if_neg hs2] at q
      have F5 : FR [305] vx (up3 vx 4 0 5 (vx 4 0 5 + 1)) := (FR.refl _ _).upf (by decide)
      refine tk_ok hI F5 (by decide) (up3_s.trans q.symm) (by rw [up3_s]; omega) (by rw [up3_s]; omega) (fun vm' h1 h2 => hok _ _ h1 F5 h2)
    · exact absurd (c ▸ q) hs1
  · rw [if_neg (fun q => c (hC.mp q))]
    exact tk_bad hI (flt_fr vx 1) (by decide) (flt_3 vx 1) (flt_4 vx 1) (fun vm' h1 h2 => hbad _ _ h1 (flt_fr vx 1) h2)
/-! a number -/
def NUM (L : Int32) (B : Nat → Int32) (x val y : Int32) : Prop := (fig (bt L B x) ∧ ¬ fig (bt L B (x + 1)) ∧ val = vl1 (bt L B x) ∧ y = x + 1) ∨ (fig (bt L B x) ∧ fig (bt L B (x + 1)) ∧ ¬ fig (bt L B (x + 1 + 1)) ∧ val = vl2 (bt L B x) (bt L B (x + 1)) ∧ y = x + 1 + 1)
def NN (L : Int32) (B : Nat → Int32) (x : Int32) : Prop := ¬ fig (bt L B x) ∨ (fig (bt L B x) ∧ fig (bt L B (x + 1)) ∧ fig (bt L B (x + 1 + 1)))
def endN (a1 : Int32) (w12 : Mm) (x2_12 : Int32) : Option (Int32 × Mm) := if x2_12 = 0 then (kb2 (g_X6_faulty w12 1) (fun r5 v6 => some (r5, v6))) else (if x2_12 ≤ 2 then (if w12 4 0 6 ≤ a1 then (Option.bind (some (up3 w12 4 0 5 ((w12 4 0 5) + x2_12))) (fun v9 => some (1, v9))) else (kb2 (g_X6_faulty w12 2) (fun r11 v12 => some (r11, v12)))) else (kb2 (g_X6_faulty w12 1) (fun r14 v15 => some (r14, v15))))
theorem num_stop {n : Nat} {a1 : Int32} {w : Mm} {x2 x3 : Int32} {P : Int32 × Mm → Prop} (h : ¬ fig (bt (w 4 0 2) (w 5 0) x3) ∨ 3 ≤ x2) (hP : pk (endN a1 w x2) P) : pk (g_X6_readNumber_L12 a1 (n + 1) w x2 x3) P := by
  show pk (b_X6_readNumber_L12 (g_X6_readNumber_L12 a1 n) a1 w x2 x3) P
  unfold b_X6_readNumber_L12
  refine pk_ite _ (fun _ => hP) (fun c1 => pk_ite _ (fun _ => hP) (fun c2 => pk_grd _ (fun _ => ?_)))
  have hf : ¬ fig (bt (w 4 0 2) (w 5 0) x3) := h.resolve_right c2
  have eb : bt (w 4 0 2) (w 5 0) x3 = w 5 0 (Int32.toNatClampNeg x3) := if_neg c1
  rw [eb] at hf
  unfold g_X6_isFigure
  have e48 : (48 : Int32).toInt = 48 := by decide
  have e57 : (57 : Int32).toInt = 57 := by decide
  have : (if w 5 0 (Int32.toNatClampNeg x3) < 48 then some (0 : Int32) else if 57 < w 5 0 (Int32.toNatClampNeg x3) then some 0 else some 1) = some 0 := by
    by_cases d1 : w 5 0 (Int32.toNatClampNeg x3) < 48
    · exact if_pos d1
    · rw [if_neg d1]
      by_cases d2 : 57 < w 5 0 (Int32.toNatClampNeg x3)
      · exact if_pos d2
      · exact absurd ⟨by have := i_nlt d1; omega, by have := i_nlt d2; omega⟩ hf
  rw [this]
  exact hP
theorem num_fig {n : Nat} {a1 : Int32} {w : Mm} {x2 x3 : Int32} {P : Int32 × Mm → Prop} (h : fig (bt (w 4 0 2) (w 5 0) x3)) (h2 : ¬ 3 ≤ x2) (hP : ∀ w1, w1 = up3 w 4 0 6 ((((w 4 0 6) * 10) + (bt (w 4 0 2) (w 5 0) x3)) - 48) → pk (g_X6_readNumber_L12 a1 n w1 (x2 + 1) (x3 + 1)) P) : pk (g_X6_readNumber_L12 a1 (n + 1) w x2 x3) P := by
  show pk (b_X6_readNumber_L12 (g_X6_readNumber_L12 a1 n) a1 w x2 x3) P
  have hl := bt_lt h
  have c1 : ¬ w 4 0 2 ≤ x3 := fun q => by have := i_le q; omega
  have eb : bt (w 4 0 2) (w 5 0) x3 = w 5 0 (Int32.toNatClampNeg x3) := if_neg c1
  rw [eb] at h hP
  unfold b_X6_readNumber_L12
  rw [if_neg c1, if_neg h2]
  refine pk_grd _ (fun _ => ?_)
  unfold g_X6_isFigure
  have e48 : (48 : Int32).toInt = 48 := by decide
  have e57 : (57 : Int32).toInt = 57 := by decide
  rw [if_neg (fun q : w 5 0 (Int32.toNatClampNeg x3) < 48 => by have := i_lt q; unfold fig at h; omega), if_neg (fun q : 57 < w 5 0 (Int32.toNatClampNeg x3) => by have := i_lt q; unfold fig at h; omega)]
  rw [bind1]
  refine pk_grd _ (fun _ => pk_let (fun w1 ew1 => hP w1 ew1))
theorem vl1_eq (c : Int32) : ((((0 : Int32) * 10) + c) - 48) = vl1 c := by
  unfold vl1
  rw [Int32.mul_comm]
theorem vl2_eq (c d : Int32) : (((vl1 c * 10) + d) - 48) = vl2 c d := by
  unfold vl2
  rw [Int32.mul_comm]
def okN (v : Mm) (a1 : Int32) (z : Int32 × Mm) : Prop := (z.1 = 1 ∧ FR [305, 306] v z.2 ∧ NUM (v 4 0 2) (v 5 0) (v 4 0 5) (z.2 4 0 6) (z.2 4 0 5) ∧ z.2 4 0 6 ≤ a1) ∨ (z.1 = 0 ∧ FR [303, 304, 306] v z.2 ∧ z.2 4 0 4 = v 4 0 5 ∧ ((z.2 4 0 3 = 1 ∧ NN (v 4 0 2) (v 5 0) (v 4 0 5)) ∨ (z.2 4 0 3 = 2 ∧ ∃ val y, NUM (v 4 0 2) (v 5 0) (v 4 0 5) val y ∧ ¬ val ≤ a1)))
set_option maxHeartbeats 4000000 in
theorem p_num (v : Mm) (a1 : Int32) (h0 : 0 ≤ (v 4 0 5).toInt) (h1 : (v 4 0 5).toInt ≤ 100) (h2 : (v 4 0 2).toInt ≤ 100) : pk (g_X6_readNumber v a1) (okN v a1) := by
  unfold g_X6_readNumber
  refine pk_let (fun w0 ew0 => ?_)
  have c5 : w0 4 0 5 = v 4 0 5 := by rw [ew0]; exact up3_j (by decide)
  have c2 : w0 4 0 2 = v 4 0 2 := by rw [ew0]; exact up3_j (by decide)
  have cb : w0 5 0 = v 5 0 := by rw [ew0]; exact up3_far (by decide)
  have c6 : w0 4 0 6 = 0 := by rw [ew0]; exact up3_s
  have G0 : FR [306] v w0 := by rw [ew0]; exact (FR.refl _ _).upf (by decide)
  have bad : ∀ (w : Mm) (k : Int32), FR [306] v w → w 4 0 5 = v 4 0 5 → ((k = 1 ∧ NN (v 4 0 2) (v 5 0) (v 4 0 5)) ∨ (k = 2 ∧ ∃ val y, NUM (v 4 0 2) (v 5 0) (v 4 0 5) val y ∧ ¬ val ≤ a1)) → pk (kb2 (g_X6_faulty w k) (fun r5 v6 => some (r5, v6))) (okN v a1) := by
    intro w k hF h5 hk
    rw [kb2_id, q_faulty]
    refine pk_some (Or.inr ⟨rfl, ((hF.sub (S2 := [303, 304, 306]) (by decide)).tr (flt_fr w k) (by decide)), (flt_4 w k).trans h5, ?_⟩)
    show (flt w k 4 0 3 = 1 ∧ _) ∨ (flt w k 4 0 3 = 2 ∧ _)
    rw [flt_3]; exact hk
  rw [c5]
  by_cases f0 : fig (bt (v 4 0 2) (v 5 0) (v 4 0 5))
  · have l0 := bt_lt f0
    have e1 : (1 : Int32).toInt = 1 := by decide
    refine num_fig (n := 1999) (by rw [c2, cb]; exact f0) (by decide) (fun w1 ew1 => ?_)
    rw [c6, c2, cb, vl1_eq] at ew1
    have d5 : w1 4 0 5 = v 4 0 5 := by rw [ew1, up3_j (by decide), c5]
    have d2 : w1 4 0 2 = v 4 0 2 := by rw [ew1, up3_j (by decide), c2]
    have db : w1 5 0 = v 5 0 := by rw [ew1, up3_far (by decide), cb]
    have d6 : w1 4 0 6 = vl1 (bt (v 4 0 2) (v 5 0) (v 4 0 5)) := by rw [ew1]; exact up3_s
    have G1 : FR [306] v w1 := by rw [ew1]; exact G0.upf (by decide)
    by_cases f1 : fig (bt (v 4 0 2) (v 5 0) (v 4 0 5 + 1))
    · refine num_fig (n := 1998) (by rw [d2, db]; exact f1) (by decide) (fun w2 ew2 => ?_)
      rw [d6, d2, db, vl2_eq] at ew2
      have g5 : w2 4 0 5 = v 4 0 5 := by rw [ew2, up3_j (by decide), d5]
      have g2 : w2 4 0 2 = v 4 0 2 := by rw [ew2, up3_j (by decide), d2]
      have gb : w2 5 0 = v 5 0 := by rw [ew2, up3_far (by decide), db]
      have g6 : w2 4 0 6 = vl2 (bt (v 4 0 2) (v 5 0) (v 4 0 5)) (bt (v 4 0 2) (v 5 0) (v 4 0 5 + 1)) := by rw [ew2]; exact up3_s
      have G2 : FR [306] v w2 := by rw [ew2]; exact G1.upf (by decide)
      by_cases f2 : fig (bt (v 4 0 2) (v 5 0) (v 4 0 5 + 1 + 1))
      · refine num_fig (n := 1997) (by rw [g2, gb]; exact f2) (by decide) (fun w3 ew3 => ?_)
        have k5 : w3 4 0 5 = v 4 0 5 := by rw [ew3, up3_j (by decide), g5]
        have G3 : FR [306] v w3 := by rw [ew3]; exact G2.upf (by decide)
        refine num_stop (n := 1996) (Or.inr (by decide)) ?_
        unfold endN
        rw [if_neg (by decide), if_neg (by decide)]
        exact bad w3 1 G3 k5 (Or.inl ⟨rfl, Or.inr ⟨f0, f1, f2⟩⟩)
      · refine num_stop (n := 1997) (Or.inl (by rw [g2, gb]; exact f2)) ?_
        unfold endN
        rw [if_neg (by decide), if_pos (by decide)]
        have hN : NUM (v 4 0 2) (v 5 0) (v 4 0 5) (w2 4 0 6) (v 4 0 5 + 1 + 1) := Or.inr ⟨f0, f1, f2, g6, rfl⟩
        refine pk_ite _ (fun cm => ?_) (fun cm => bad w2 2 G2 g5 (Or.inr ⟨rfl, _, _, hN, cm⟩))
        refine pk_some (Or.inl ⟨rfl, (G2.sub (S2 := [305, 306]) (by decide)).upf (by decide), ?_, ?_⟩)
        · show NUM (v 4 0 2) (v 5 0) (v 4 0 5) (up3 w2 4 0 5 (w2 4 0 5 + (0 + 1 + 1)) 4 0 6) (up3 w2 4 0 5 (w2 4 0 5 + (0 + 1 + 1)) 4 0 5)
          rw [up3_j (by decide), up3_s, g5, show v 4 0 5 + (0 + 1 + 1) = v 4 0 5 + 1 + 1 from (Int32.add_assoc (v 4 0 5) 1 1).symm]; exact hN
        · show up3 w2 4 0 5 (w2 4 0 5 + (0 + 1 + 1)) 4 0 6 ≤ a1
          rw [up3_j (by decide)]; exact cm
    · refine num_stop (n := 1998) (Or.inl (by rw [d2, db]; exact f1)) ?_
      unfold endN
      rw [if_neg (by decide), if_pos (by decide)]
      have hN : NUM (v 4 0 2) (v 5 0) (v 4 0 5) (w1 4 0 6) (v 4 0 5 + 1) := Or.inl ⟨f0, f1, d6, rfl⟩
      refine pk_ite _ (fun cm => ?_) (fun cm => bad w1 2 G1 d5 (Or.inr ⟨rfl, _, _, hN, cm⟩))
      refine pk_some (Or.inl ⟨rfl, (G1.sub (S2 := [305, 306]) (by decide)).upf (by decide), ?_, ?_⟩)
      · show NUM (v 4 0 2) (v 5 0) (v 4 0 5) (up3 w1 4 0 5 (w1 4 0 5 + (0 + 1)) 4 0 6) (up3 w1 4 0 5 (w1 4 0 5 + (0 + 1)) 4 0 5)
        rw [up3_j (by decide), up3_s, d5]; exact hN
      · show up3 w1 4 0 5 (w1 4 0 5 + (0 + 1)) 4 0 6 ≤ a1
        rw [up3_j (by decide)]; exact cm
  · refine num_stop (n := 1999) (Or.inl (by rw [c2, cb]; exact f0)) ?_
    unfold endN
    rw [if_pos rfl]
    exact bad w0 1 G0 c5 (Or.inl ⟨rfl, Or.inl f0⟩)
theorem TOK_num {L : Int32} {B : Nat → Int32} {x tok val at_ a y : Int32} (h : TOK L B x tok val at_) (hn : NUM L B x a y) : tok = 2 ∧ val = a ∧ at_ = y := by
  rcases hn with ⟨f0, f1, e1, e2⟩ | ⟨f0, f1, f2, e1, e2⟩
  · obtain ⟨q1, q2, q3⟩ := h.2.1 f0 f1
    exact ⟨q1, q2.trans e1.symm, q3.trans e2.symm⟩
  · obtain ⟨q1, q2, q3⟩ := h.2.2.1 f0 f1 f2
    exact ⟨q1, q2.trans e1.symm, q3.trans e2.symm⟩
theorem TOK_nn {L : Int32} {B : Nat → Int32} {x tok val at_ : Int32} (h : TOK L B x tok val at_) (hn : NN L B x) : ¬ tok = 2 := by
  intro q
  rcases hn with f0 | ⟨f0, f1, f2⟩
  · have e := (h.1 f0).2.1
    rcases tk_le (bt L B x) with k | k | k | k | k <;> (rw [k, q] at e; exact absurd e (by decide))
  · have e := h.2.2.2 f0 f1 f2
    rw [q] at e; exact absurd e (by decide)
theorem vl1_rg {c : Int32} (h : fig c) : (vl1 c).toInt = c.toInt - 48 := by
  have e0 : (10 : Int32) * 0 = 0 := by decide
  have e48 : (48 : Int32).toInt = 48 := by decide
  unfold vl1 fig at *
  rw [e0, Int32.zero_add]
  have := sp_subx c 48 (by omega)
  omega
theorem vl2_rg {c d : Int32} (h : fig c) (h2 : fig d) : (vl2 c d).toInt = 10 * (c.toInt - 48) + (d.toInt - 48) := by
  have e48 : (48 : Int32).toInt = 48 := by decide
  have e1 := vl1_rg h
  unfold vl2 fig at *
  have e2 := sp_cmulx 10 (vl1 c) 10 (by decide) (by omega)
  have e3 := sp_addx ((10 : Int32) * vl1 c) d (by omega)
  have e4 := sp_subx ((10 : Int32) * vl1 c + d) 48 (by omega)
  omega
theorem NUM_rg {L : Int32} {B : Nat → Int32} {x a y : Int32} (hn : NUM L B x a y) (h0 : 0 ≤ x.toInt) (h1 : L.toInt ≤ 100) : 0 ≤ a.toInt ∧ x.toInt < y.toInt ∧ y.toInt ≤ L.toInt := by
  have e1 : (1 : Int32).toInt = 1 := by decide
  rcases hn with ⟨f0, f1, rfl, rfl⟩ | ⟨f0, f1, f2, rfl, rfl⟩
  · have := vl1_rg f0
    have l0 := bt_lt f0
    have ex := sp_addx x 1 (by omega)
    unfold fig at f0
    omega
  · have := vl2_rg f0 f1
    have l0 := bt_lt f0
    have ex := sp_addx x 1 (by omega)
    have l1 := bt_lt f1
    have ey := sp_addx (x + 1) 1 (by omega)
    unfold fig at f0 f1
    omega
theorem st_num {γ δ : Type} {vx vm : Mm} {F : Int32 → Mm → Option γ} {K : Int32 → Mm → Option δ} {Q : γ → δ → Prop} {a1 : Int32} (hI : INV vx vm) (hok : ∀ vx' vm', INV vx' vm' → FR [305, 306] vx vx' → FR sTK vm vm' → 0 ≤ (vx' 4 0 6).toInt → vx' 4 0 6 ≤ a1 → rel (F 1 vx') (K (vx' 4 0 6) vm') Q) (hbad : ∀ vx' vm', FLT vx' vm' → FR [303, 304, 306] vx vx' → FR [207, 208] vm vm' → rel (F 0 vx') (K 0 vm') Q) : rel (kb2 (g_X6_readNumber vx a1) F) (kb2 (g_X8_figure vm 0 a1) K) Q := by
  have e0 : (0 : Int32).toInt = 0 := by decide
  have i2 := hI.2.1
  have i3 := hI.2.2.1
  have i4 := hI.2.2.2.1
  have ht := hI.2.2.2.2.2.2.2
  refine rel_kb2L (p_num vx a1 i3 (by omega) i2) (fun r vx' hz => ?_)
  unfold g_X8_figure
  rw [q_well hI.2.2.2.2.2.1, bind1]
  rcases hz with ⟨z1, z2, z3, z4⟩ | ⟨z1, z2, z3, z4⟩
  · have z1 : r = 1 := z1
    have z2 : FR [305, 306] vx vx' := z2
    have z3 : NUM (vx 4 0 2) (vx 5 0) (vx 4 0 5) (vx' 4 0 6) (vx' 4 0 5) := z3
    have z4 : vx' 4 0 6 ≤ a1 := z4
    subst z1
    obtain ⟨t1, t2, t3⟩ := TOK_num ht z3
    obtain ⟨n1, n2, n3⟩ := NUM_rg z3 i3 i2
    rw [if_pos t1, q_X8_in, t2]
    unfold b01
    rw [if_pos ⟨by rw [e0]; exact n1, i_le z4⟩]
    show rel _ (kb2 (kb2 (g_X8_takes vm 1 2) (fun r16 v17 => some (r16, v17))) K) Q
    rw [kb2_id]
    refine tk_ok hI z2 (by decide) t3.symm (by omega) (by omega) (fun vm' h1 h2 => ?_)
    rw [t2]
    exact hok _ _ h1 z2 h2 n1 z4
  · have z1 : r = 0 := z1
    have z2 : FR [303, 304, 306] vx vx' := z2
    have z3 : vx' 4 0 4 = vx 4 0 5 := z3
    subst z1
    rcases z4 with ⟨k1, k2⟩ | ⟨k1, val, y, k2, k3⟩
    · have k1 : vx' 4 0 3 = 1 := k1
      rw [if_neg (TOK_nn ht k2), kb2_id]
      exact tk_bad hI z2 (by decide) k1 z3 (fun vm' h1 h2 => hbad _ _ h1 z2 h2)
    · have k1 : vx' 4 0 3 = 2 := k1
      obtain ⟨t1, t2, t3⟩ := TOK_num ht k2
      rw [if_pos t1, q_X8_in, t2]
      unfold b01
      rw [if_neg (fun q => k3 (Int32.le_iff_toInt_le.mpr q.2))]
      show rel _ (kb2 (kb2 (g_X8_takes vm 0 2) (fun r16 v17 => some (r16, v17))) K) Q
      rw [kb2_id]
      exact tk_bad hI z2 (by decide) k1 z3 (fun vm' h1 h2 => hbad _ _ h1 z2 h2)
/-! once a fault is found the reference goes on without a change -/
theorem s_in_takes {v : Mm} (h : 0 ≤ (v 30 0 8).toInt) (a lo hi : Int32) : Option.bind (g_X8_in v a lo hi) (fun r6 => kb2 (g_X8_takes v r6 2) (fun r9 v10 => some (r9, v10))) = some (0, v) := by
  rw [q_X8_in]
  show kb2 (g_X8_takes v _ 2) (fun r9 v10 => some (r9, v10)) = _
  rw [q_takes_s h]; rfl
theorem s_figure {v : Mm} (h : 0 ≤ (v 30 0 8).toInt) (lo hi : Int32) : g_X8_figure v lo hi = some (0, v) := by
  unfold g_X8_figure
  rw [q_ill h, bind0, s_in_takes h]
theorem q_follows {β : Type} (v : Mm) (lo hi : Int32) (K : Int32 → Mm → Option β) : kb2 (g_X8_follows v lo hi) K = if v 30 0 11 = 3 then (kb2 (g_X8_takes v 1 1) (fun _ w => kb2 (g_X8_figure w lo hi) K)) else (kb2 (g_X8_takes v 0 1) (fun _ w => kb2 (g_X8_figure w lo hi) K)) := by
  unfold g_X8_follows
  rw [kb2_ite, kb2_assoc, kb2_assoc]
  simp only [kb2_id]
theorem s_follows {v : Mm} (h : 0 ≤ (v 30 0 8).toInt) (lo hi : Int32) : g_X8_follows v lo hi = some (0, v) := by
  unfold g_X8_follows
  simp only [q_takes_s h, kb2_sm, s_figure h, ite_self]
theorem s_letterOf {v : Mm} (h : 0 ≤ (v 30 0 8).toInt) : g_X8_letterOf v = some (0 - 97, v) := by
  unfold g_X8_letterOf
  simp only [q_takes_s h, kb2_sm, ite_self]
theorem s_must {v : Mm} (h : 0 ≤ (v 30 0 8).toInt) (a : Int32) : g_X8_must v a = some v := by
  unfold g_X8_must
  rw [q_ill h]; rfl
theorem q_must_t {v : Mm} (h : v 30 0 8 = -1) : g_X8_must v 1 = some v := by
  unfold g_X8_must
  rw [q_well h]; rfl
theorem q_must_f {v : Mm} (h : v 30 0 8 = -1) : g_X8_must v 0 = some (up3 (up3 v 30 0 8 (v 30 0 10)) 30 0 7 1) := by
  unfold g_X8_must
  rw [q_well h, q_takes_f h]; rfl
