/-! the fewest men by whom it is known for sure -/
theorem t_xor6 : ∀ a, a < 64 → ∀ b, b < 64 → nI a ^^^ nI b = nI (a ^^^ b) := by decide +kernel
theorem t_xlt : ∀ a, a < 64 → ∀ b, b < 64 → a &&& b ≠ 0 → a ^^^ (a &&& b) < a := by decide +kernel
theorem t_xz : ∀ a, a < 64 → ∀ b, b < 64 → (a ^^^ (a &&& b) = 0 ↔ a &&& b = a) := by decide +kernel
theorem tc_nI {k : Nat} (h : k < 1000) : Int32.toNatClampNeg (nI k) = k := by
  have := nI_int h
  rw [tcn, this]; omega
theorem nI_eqk {a b : Nat} (ha : a < 1000) (hb : b < 1000) : nI a = nI b ↔ a = b := by
  refine ⟨fun q => ?_, fun q => by rw [q]⟩
  have h1 := nI_int ha
  have h2 := nI_int hb
  rw [q] at h1
  omega
/-- one set's men, as the class finds them by a table of lesser sets; as the reference does -/
def cfM (A : Nat → Int32) (s x : Nat) : Int32 := (1 : Int32) + (if A x < A (s ^^^ x) then A (s ^^^ x) else A x)
def CFn (A : Nat → Int32) (c : Nat → Nat) (s : Nat) : Nat → Int32
  | 0 => 1000
  | k + 1 => if s &&& c k = 0 then CFn A c s k else (if s &&& c k = s then CFn A c s k else (if cfM A s (s &&& c k) < CFn A c s k then cfM A s (s &&& c k) else CFn A c s k))
def rfM (B : Nat → Int32) (s x : Nat) : Int32 := if B x ≤ B (s ^^^ x) then (1 : Int32) + B (s ^^^ x) else (1 : Int32) + B x
def RFn (B : Nat → Int32) (c : Nat → Nat) (s : Nat) : Nat → Int32
  | 0 => (-1000000)
  | k + 1 => if s &&& c k = 0 then RFn B c s k else (if s &&& c k = s then RFn B c s k else (if B (s &&& c k) = (-1000000) then RFn B c s k else (if B (s ^^^ (s &&& c k)) = (-1000000) then RFn B c s k else (if RFn B c s k = (-1000000) then rfM B s (s &&& c k) else (if RFn B c s k ≤ rfM B s (s &&& c k) then RFn B c s k else rfM B s (s &&& c k))))))
theorem sub_ltk {s x : Nat} (h : ¬ s &&& x = s) : s &&& x < s := by
  have := Nat.and_le_left (n := s) (m := x)
  omega
theorem CF_congr {A A2 : Nat → Int32} {c : Nat → Nat} {s : Nat} (hs : s < 64) (hc : ∀ k, c k < 64) (h : ∀ j, j < s → A j = A2 j) : ∀ k, CFn A c s k = CFn A2 c s k := by
  intro k
  induction k with
  | zero => rfl
  | succ k ih =>
    show (if s &&& c k = 0 then CFn A c s k else (if s &&& c k = s then CFn A c s k else (if cfM A s (s &&& c k) < CFn A c s k then cfM A s (s &&& c k) else CFn A c s k))) = (if s &&& c k = 0 then CFn A2 c s k else (if s &&& c k = s then CFn A2 c s k else (if cfM A2 s (s &&& c k) < CFn A2 c s k then cfM A2 s (s &&& c k) else CFn A2 c s k)))
    rw [ih]
    by_cases z0 : s &&& c k = 0
    · rw [if_pos z0, if_pos z0]
    · by_cases z1 : s &&& c k = s
      · rw [if_neg z0, if_neg z0, if_pos z1, if_pos z1]
      · have e : cfM A s (s &&& c k) = cfM A2 s (s &&& c k) := by
          unfold cfM
          rw [h _ (sub_ltk z1), h _ (t_xlt s hs (c k) (hc k) z0)]
        rw [e]
theorem RF_congr {A A2 : Nat → Int32} {c : Nat → Nat} {s : Nat} (hs : s < 64) (hc : ∀ k, c k < 64) (h : ∀ j, j < s → A j = A2 j) : ∀ k, RFn A c s k = RFn A2 c s k := by
  intro k
  induction k with
  | zero => rfl
  | succ k ih =>
    show (if s &&& c k = 0 then RFn A c s k else (if s &&& c k = s then RFn A c s k else (if A (s &&& c k) = (-1000000) then RFn A c s k else (if A (s ^^^ (s &&& c k)) = (-1000000) then RFn A c s k else (if RFn A c s k = (-1000000) then rfM A s (s &&& c k) else (if RFn A c s k ≤ rfM A s (s &&& c k) then RFn A c s k else rfM A s (s &&& c k))))))) = (if s &&& c k = 0 then RFn A2 c s k else (if s &&& c k = s then RFn A2 c s k else (if A2 (s &&& c k) = (-1000000) then RFn A2 c s k else (if A2 (s ^^^ (s &&& c k)) = (-1000000) then RFn A2 c s k else (if RFn A2 c s k = (-1000000) then rfM A2 s (s &&& c k) else (if RFn A2 c s k ≤ rfM A2 s (s &&& c k) then RFn A2 c s k else rfM A2 s (s &&& c k)))))))
    rw [ih]
    by_cases z0 : s &&& c k = 0
    · rw [if_pos z0, if_pos z0]
    · by_cases z1 : s &&& c k = s
      · rw [if_neg z0, if_neg z0, if_pos z1, if_pos z1]
      · have e : rfM A s (s &&& c k) = rfM A2 s (s &&& c k) := by
          unfold rfM
          rw [h _ (sub_ltk z1), h _ (t_xlt s hs (c k) (hc k) z0)]
        rw [e, h _ (sub_ltk z1), h _ (t_xlt s hs (c k) (hc k) z0)]
def RLf (s : Nat) (f b : Int32) : Prop := (b = (-1000000) ∧ f = 1000) ∨ (b = f ∧ 0 ≤ f.toInt ∧ f.toInt ≤ (s : Int))
theorem RLf_step {A B : Nat → Int32} {c : Nat → Nat} {s : Nat} (hs : s < 64) (hc : ∀ k, c k < 64) (h : ∀ j, j < s → RLf j (A j) (B j)) : ∀ k, RLf s (CFn A c s k) (RFn B c s k) := by
  have e1 : (1 : Int32).toInt = 1 := by decide
  have eK : (1000 : Int32).toInt = 1000 := by decide
  have eN : (-1000000 : Int32).toInt = -1000000 := by decide
  intro k
  induction k with
  | zero => exact Or.inl ⟨rfl, rfl⟩
  | succ k ih =>
    show RLf s (if s &&& c k = 0 then CFn A c s k else (if s &&& c k = s then CFn A c s k else (if cfM A s (s &&& c k) < CFn A c s k then cfM A s (s &&& c k) else CFn A c s k))) (if s &&& c k = 0 then RFn B c s k else (if s &&& c k = s then RFn B c s k else (if B (s &&& c k) = (-1000000) then RFn B c s k else (if B (s ^^^ (s &&& c k)) = (-1000000) then RFn B c s k else (if RFn B c s k = (-1000000) then rfM B s (s &&& c k) else (if RFn B c s k ≤ rfM B s (s &&& c k) then RFn B c s k else rfM B s (s &&& c k)))))))
    by_cases z0 : s &&& c k = 0
    · rw [if_pos z0, if_pos z0]; exact ih
    · by_cases z1 : s &&& c k = s
      · rw [if_neg z0, if_neg z0, if_pos z1, if_pos z1]; exact ih
      · rw [if_neg z0, if_neg z0, if_neg z1, if_neg z1]
        have l1 := sub_ltk z1
        have l2 := t_xlt s hs (c k) (hc k) z0
        have r1 := h _ l1
        have r2 := h _ l2
        obtain ⟨a, ea⟩ : ∃ a, a = s &&& c k := ⟨_, rfl⟩
        rw [← ea] at l1 l2 r1 r2 ⊢
        obtain ⟨f, ef⟩ : ∃ f, f = CFn A c s k := ⟨_, rfl⟩
        obtain ⟨b, eb⟩ : ∃ b, b = RFn B c s k := ⟨_, rfl⟩
        rw [← ef, ← eb] at ih ⊢
        have fle : f.toInt ≤ 1000 := by
          rcases ih with ⟨-, i2⟩ | ⟨-, -, i3⟩
          · rw [i2, eK]; omega
          · omega
        -- one of the two can't be known: nothing changes
        have no : (A a = 1000 ∨ A (s ^^^ a) = 1000) → (0 ≤ (A a).toInt ∧ (A a).toInt ≤ 1000) → (0 ≤ (A (s ^^^ a)).toInt ∧ (A (s ^^^ a)).toInt ≤ 1000) → (if cfM A s a < f then cfM A s a else f) = f := by
          intro p p1 p2
          refine if_neg (fun q => ?_)
          have q := i_lt q
          unfold cfM at q
          by_cases w : A a < A (s ^^^ a)
          · rw [if_pos w] at q
            have w := i_lt w
            have := sp_addx 1 (A (s ^^^ a)) (by omega)
            rcases p with p | p
            · rw [p, eK] at w; omega
            · rw [p, eK] at this; rw [p] at q; omega
          · rw [if_neg w] at q
            have w := i_nlt w
            have := sp_addx 1 (A a) (by omega)
            rcases p with p | p
            · rw [p, eK] at this; rw [p] at q; omega
            · rw [p, eK] at w; omega
        have rg : ∀ {j : Nat} {x y : Int32}, j < 64 → RLf j x y → 0 ≤ x.toInt ∧ x.toInt ≤ 1000 := by
          intro j x y hj r
          rcases r with ⟨-, i2⟩ | ⟨-, i2, i3⟩
          · rw [i2, eK]; omega
          · omega
        have g1 := rg (by omega) r1
        have g2 := rg (by omega) r2
        rcases r1 with ⟨p1, p2⟩ | ⟨p1, p2, p3⟩
        · rw [if_pos p1, no (Or.inl p2) g1 g2]; exact ih
        · have n1 : ¬ B a = (-1000000) := fun q => by rw [p1] at q; rw [q, eN] at p2; omega
          rw [if_neg n1]
          rcases r2 with ⟨q1, q2⟩ | ⟨q1, q2, q3⟩
          · rw [if_pos q1, no (Or.inr q2) g1 g2]; exact ih
          · have n2 : ¬ B (s ^^^ a) = (-1000000) := fun q => by rw [q1] at q; rw [q, eN] at q2; omega
            rw [if_neg n2]
            have em : rfM B s a = cfM A s a ∧ 0 ≤ (cfM A s a).toInt ∧ (cfM A s a).toInt ≤ (s : Int) := by
              have s1 := sp_addx 1 (A a) (by omega)
              have s2 := sp_addx 1 (A (s ^^^ a)) (by omega)
              unfold rfM cfM
              rw [p1, q1]
              by_cases w : A a < A (s ^^^ a)
              · have w' := i_lt w
                rw [if_pos w, if_pos (Int32.le_iff_toInt_le.mpr (by omega))]
                exact ⟨rfl, by omega, by omega⟩
              · have w' := i_nlt w
                rw [if_neg w]
                by_cases v : A a ≤ A (s ^^^ a)
                · have v' := i_le v
                  have e : A a = A (s ^^^ a) := Int32.toInt_inj.mp (by omega)
                  rw [if_pos v, e]
                  exact ⟨rfl, by omega, by omega⟩
                · rw [if_neg v]
                  exact ⟨rfl, by omega, by omega⟩
            obtain ⟨em1, em2, em3⟩ := em
            rw [em1]
            rcases ih with ⟨i1, i2⟩ | ⟨i1, i2, i3⟩
            · rw [if_pos i1, if_pos (Int32.lt_iff_toInt_lt.mpr (by rw [i2, eK]; omega))]
              exact Or.inr ⟨rfl, em2, em3⟩
            · have n3 : ¬ b = (-1000000) := fun q => by rw [i1] at q; rw [q, eN] at i2; omega
              rw [if_neg n3, i1]
              by_cases w : cfM A s a < f
              · have w' := i_lt w
                rw [if_pos w, if_neg (fun q => by have := i_le q; omega)]
                exact Or.inr ⟨rfl, em2, em3⟩
              · have w' := i_nlt w
                rw [if_neg w, if_pos (Int32.le_iff_toInt_le.mpr w')]
                exact Or.inr ⟨rfl, i2, i3⟩
/-! tables, from the least sets on -/
def TBg (F : (Nat → Int32) → Nat → Int32) : Nat → Nat → Int32
  | 0 => fun _ => 0
  | n + 1 => fun j => if j = n then F (TBg F n) n else TBg F n j
theorem TBg_v (F : (Nat → Int32) → Nat → Int32) : ∀ (n j : Nat), j < n → TBg F n j = F (TBg F j) j := by
  intro n
  induction n with
  | zero => intro j h; exact absurd h (Nat.not_lt_zero j)
  | succ n ih =>
    intro j h
    show (if j = n then F (TBg F n) n else TBg F n j) = _
    by_cases q : j = n
    · rw [if_pos q, q]
    · rw [if_neg q]; exact ih j (by omega)
def FXn (c : Nat → Nat) (T : Nat) (A : Nat → Int32) (s : Nat) : Int32 := if pc s ≤ 1 then 0 else CFn A c s T
def FMn (c : Nat → Nat) (T : Nat) (B : Nat → Int32) (s : Nat) : Int32 := if pc s ≤ 1 then 0 else RFn B c s T
/-- the men for a set -/
def MXn (c : Nat → Nat) (T s : Nat) : Int32 := FXn c T (TBg (FXn c T) s) s
def MMn (c : Nat → Nat) (T s : Nat) : Int32 := FMn c T (TBg (FMn c T) s) s
theorem MX_of {c : Nat → Nat} {T s : Nat} (hs : s < 64) (hc : ∀ k, c k < 64) {A : Nat → Int32} (h : ∀ j, j < s → A j = MXn c T j) : FXn c T A s = MXn c T s := by
  have e := CF_congr (A := A) (A2 := TBg (FXn c T) s) hs hc (fun j hj => (h j hj).trans (TBg_v (FXn c T) s j hj).symm) T
  show FXn c T A s = FXn c T (TBg (FXn c T) s) s
  by_cases q : pc s ≤ 1
  · exact (show FXn c T A s = 0 from if_pos q).trans (show FXn c T (TBg (FXn c T) s) s = 0 from if_pos q).symm
  · exact (show FXn c T A s = CFn A c s T from if_neg q).trans (e.trans (show FXn c T (TBg (FXn c T) s) s = CFn (TBg (FXn c T) s) c s T from if_neg q).symm)
theorem MM_of {c : Nat → Nat} {T s : Nat} (hs : s < 64) (hc : ∀ k, c k < 64) {A : Nat → Int32} (h : ∀ j, j < s → A j = MMn c T j) : FMn c T A s = MMn c T s := by
  have e := RF_congr (A := A) (A2 := TBg (FMn c T) s) hs hc (fun j hj => (h j hj).trans (TBg_v (FMn c T) s j hj).symm) T
  show FMn c T A s = FMn c T (TBg (FMn c T) s) s
  by_cases q : pc s ≤ 1
  · exact (show FMn c T A s = 0 from if_pos q).trans (show FMn c T (TBg (FMn c T) s) s = 0 from if_pos q).symm
  · exact (show FMn c T A s = RFn A c s T from if_neg q).trans (e.trans (show FMn c T (TBg (FMn c T) s) s = RFn (TBg (FMn c T) s) c s T from if_neg q).symm)
theorem MX_RLf {c : Nat → Nat} (hc : ∀ k, c k < 64) (T : Nat) : ∀ n s : Nat, s < n → s < 64 → RLf s (MXn c T s) (MMn c T s) := by
  intro n
  induction n with
  | zero => intro s h; exact absurd h (Nat.not_lt_zero s)
  | succ n ih =>
    intro s h hs
    have e0 : (0 : Int32).toInt = 0 := by decide
    have st := RLf_step (A := TBg (FXn c T) s) (B := TBg (FMn c T) s) hs hc (fun j hj => by
      rw [TBg_v (FXn c T) s j hj, TBg_v (FMn c T) s j hj]
      exact ih j (by omega) (by omega)) T
    show RLf s (FXn c T (TBg (FXn c T) s) s) (FMn c T (TBg (FMn c T) s) s)
    by_cases q : pc s ≤ 1
    · rw [show FXn c T (TBg (FXn c T) s) s = 0 from if_pos q, show FMn c T (TBg (FMn c T) s) s = 0 from if_pos q]
      exact Or.inr ⟨rfl, by rw [e0]; omega, by rw [e0]; omega⟩
    · rw [show FXn c T (TBg (FXn c T) s) s = CFn (TBg (FXn c T) s) c s T from if_neg q, show FMn c T (TBg (FMn c T) s) s = RFn (TBg (FMn c T) s) c s T from if_neg q]
      exact st
