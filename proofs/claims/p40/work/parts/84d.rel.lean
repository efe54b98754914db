/-! TWO SIDES: what class and reference give, side by side -/
def rel {α β : Type} (o1 : Option α) (o2 : Option β) (P : α → β → Prop) : Prop := ∀ a b, o1 = some a → o2 = some b → P a b
theorem rel_some {α β : Type} {a : α} {b : β} {P : α → β → Prop} (h : P a b) : rel (some a) (some b) P := fun x y e1 e2 => by cases e1; cases e2; exact h
theorem rel_someL {α β : Type} {a : α} {o : Option β} {P : α → β → Prop} (h : pk o (fun b => P a b)) : rel (some a) o P := fun x y e1 e2 => by cases e1; exact h y e2
theorem rel_someR {α β : Type} {b : β} {o : Option α} {P : α → β → Prop} (h : pk o (fun a => P a b)) : rel o (some b) P := fun x y e1 e2 => by cases e2; exact h x e1
theorem rel_iteL {α β : Type} {c : Prop} {P : α → β → Prop} {A B : Option α} {o : Option β} (d : Decidable c) (h1 : c → rel A o P) (h2 : ¬ c → rel B o P) : rel (@ite _ c d A B) o P := by
  by_cases h : c
  · rw [if_pos h]; exact h1 h
  · rw [if_neg h]; exact h2 h
theorem rel_iteR {α β : Type} {c : Prop} {P : α → β → Prop} {A B : Option β} {o : Option α} (d : Decidable c) (h1 : c → rel o A P) (h2 : ¬ c → rel o B P) : rel o (@ite _ c d A B) P := by
  by_cases h : c
  · rw [if_pos h]; exact h1 h
  · rw [if_neg h]; exact h2 h
theorem rel_ite {α β : Type} {c1 c2 : Prop} {P : α → β → Prop} {A1 B1 : Option α} {A2 B2 : Option β} {d1 : Decidable c1} {d2 : Decidable c2} (hc : c1 ↔ c2) (h1 : c1 → rel A1 A2 P) (h2 : ¬ c1 → rel B1 B2 P) : rel (@ite _ c1 d1 A1 B1) (@ite _ c2 d2 A2 B2) P := by
  by_cases h : c1
  · rw [if_pos h, if_pos (hc.mp h)]; exact h1 h
  · rw [if_neg h, if_neg (fun q => h (hc.mpr q))]; exact h2 h
theorem rel_grdL {α β : Type} {c : Prop} {P : α → β → Prop} {B : Option α} {o : Option β} (d : Decidable c) (h : ¬ c → rel B o P) : rel (@ite _ c d none B) o P := rel_iteL d (fun _ _ _ e => by cases e) h
theorem rel_grdR {α β : Type} {c : Prop} {P : α → β → Prop} {B : Option β} {o : Option α} (d : Decidable c) (h : ¬ c → rel o B P) : rel o (@ite _ c d none B) P := rel_iteR d (fun _ _ _ _ e => by cases e) h
theorem rel_bindL {α β γ : Type} {o1 : Option α} {f : α → Option γ} {o2 : Option β} {Q : α → Prop} {P : γ → β → Prop} (h : pk o1 Q) (k : ∀ a, Q a → rel (f a) o2 P) : rel (o1.bind f) o2 P := by
  intro x y e1 e2
  cases q : o1 with
  | none => rw [q] at e1; cases e1
  | some a => rw [q] at e1; exact k a (h a q) x y e1 e2
theorem rel_bindR {α β γ : Type} {o1 : Option α} {f : β → Option γ} {o2 : Option β} {Q : β → Prop} {P : α → γ → Prop} (h : pk o2 Q) (k : ∀ a, Q a → rel o1 (f a) P) : rel o1 (o2.bind f) P := by
  intro x y e1 e2
  cases q : o2 with
  | none => rw [q] at e2; cases e2
  | some a => rw [q] at e2; exact k a (h a q) x y e1 e2
theorem rel_letL {α β γ : Type} {a : α} {f : α → Option γ} {o : Option β} {P : γ → β → Prop} (k : ∀ x, x = a → rel (f x) o P) : rel (Option.bind (some a) f) o P := k a rfl
theorem rel_letR {α β γ : Type} {a : β} {f : β → Option γ} {o : Option α} {P : α → γ → Prop} (k : ∀ x, x = a → rel o (f x) P) : rel o (Option.bind (some a) f) P := k a rfl
theorem rel_kb2L {α β : Type} {o1 : Option (Int32 × Mm)} {f : Int32 → Mm → Option α} {o2 : Option β} {Q : Int32 × Mm → Prop} {P : α → β → Prop} (h : pk o1 Q) (k : ∀ r v, Q (r, v) → rel (f r v) o2 P) : rel (kb2 o1 f) o2 P := rel_bindL h (fun z q => k z.1 z.2 q)
theorem rel_kb2R {α β : Type} {o2 : Option (Int32 × Mm)} {f : Int32 → Mm → Option β} {o1 : Option α} {Q : Int32 × Mm → Prop} {P : α → β → Prop} (h : pk o2 Q) (k : ∀ r v, Q (r, v) → rel o1 (f r v) P) : rel o1 (kb2 o2 f) P := rel_bindR h (fun z q => k z.1 z.2 q)
theorem rel.mono {α β : Type} {o1 : Option α} {o2 : Option β} {P Q : α → β → Prop} (h : rel o1 o2 P) (k : ∀ a b, P a b → Q a b) : rel o1 o2 Q := fun a b e1 e2 => k a b (h a b e1 e2)
theorem rel.andL {α β : Type} {o1 : Option α} {o2 : Option β} {P : α → β → Prop} {Q : α → Prop} (h : rel o1 o2 P) (k : pk o1 Q) : rel o1 o2 (fun a b => P a b ∧ Q a) := fun a b e1 e2 => ⟨h a b e1 e2, k a e1⟩
theorem rel.andR {α β : Type} {o1 : Option α} {o2 : Option β} {P : α → β → Prop} {Q : β → Prop} (h : rel o1 o2 P) (k : pk o2 Q) : rel o1 o2 (fun a b => P a b ∧ Q b) := fun a b e1 e2 => ⟨h a b e1 e2, k b e2⟩
theorem pk_of_eq {α : Type} {o : Option α} {a : α} (h : o = some a) : pk o (fun x => x = a) := fun b e => by rw [h] at e; cases e; rfl
/-- truth as a number -/
def b01 (c : Prop) [Decidable c] : Int32 := if c then 1 else 0
theorem b01_z {c : Prop} [Decidable c] {α : Type} (A B : α) : (if b01 c = 0 then A else B) = if c then B else A := by
  unfold b01
  by_cases h : c
  · rw [if_pos h, if_pos h]; exact if_neg (by decide)
  · rw [if_neg h, if_neg h]; exact if_pos rfl
theorem rng2 {α : Type} (lo hi x : Int32) (A B : α) : (if x < lo then A else if hi < x then A else B) = if lo.toInt ≤ x.toInt ∧ x.toInt ≤ hi.toInt then B else A := by
  by_cases h1 : x < lo
  · rw [if_pos h1, if_neg (fun q => by have := i_lt h1; omega)]
  · by_cases h2 : hi < x
    · rw [if_neg h1, if_pos h2, if_neg (fun q => by have := i_lt h2; omega)]
    · rw [if_neg h1, if_neg h2, if_pos ⟨i_nlt h1, i_nlt h2⟩]
theorem q_X8_in (v : Mm) (a lo hi : Int32) : g_X8_in v a lo hi = some (b01 (lo.toInt ≤ a.toInt ∧ a.toInt ≤ hi.toInt)) := by
  unfold g_X8_in
  rw [rng2]
  unfold b01
  split <;> rfl
