/-! SAFETY: a function's value is there, and has a property -/
def ok {α : Type} (o : Option α) (P : α → Prop) : Prop := ∃ a, o = some a ∧ P a
theorem ok_some {α : Type} {a : α} {P : α → Prop} (h : P a) : ok (some a) P := ⟨a, rfl, h⟩
theorem ok_ite {α : Type} {c : Prop} {P : α → Prop} {A B : Option α} (d : Decidable c) (h1 : c → ok A P) (h2 : ¬ c → ok B P) : ok (@ite _ c d A B) P := by
  by_cases h : c
  · rw [if_pos h]; exact h1 h
  · rw [if_neg h]; exact h2 h
theorem ok_grd {α : Type} {c : Prop} {P : α → Prop} {B : Option α} (d : Decidable c) (h1 : ¬ c) (h2 : ok B P) : ok (@ite _ c d none B) P := by
  rw [if_neg h1]; exact h2
theorem ok_bind {α β : Type} {o : Option α} {f : α → Option β} {Q : α → Prop} {P : β → Prop} (h : ok o Q) (k : ∀ a, Q a → ok (f a) P) : ok (o.bind f) P := by
  obtain ⟨a, e, q⟩ := h
  rw [e]
  exact k a q
theorem ok_let {α β : Type} {a : α} {f : α → Option β} {P : β → Prop} (k : ∀ x, x = a → ok (f x) P) : ok (Option.bind (some a) f) P := k a rfl
theorem ok_kb2 {β : Type} {o : Option (Int32 × Mm)} {f : Int32 → Mm → Option β} {Q : Int32 × Mm → Prop} {P : β → Prop} (h : ok o Q) (k : ∀ r v, Q (r, v) → ok (f r v) P) : ok (kb2 o f) P := by
  obtain ⟨⟨r, v⟩, e, q⟩ := h
  rw [kb2_some e]
  exact k r v q
theorem ok.mono {α : Type} {o : Option α} {P Q : α → Prop} (h : ok o P) (k : ∀ a, P a → Q a) : ok o Q := by
  obtain ⟨a, e, p⟩ := h
  exact ⟨a, e, k a p⟩
/-! numbers as integers -/
theorem i_bd (a : Int32) : -2147483648 ≤ a.toInt ∧ a.toInt < 2147483648 := ⟨Int32.le_toInt a, Int32.toInt_lt a⟩
theorem i_lt {a b : Int32} (h : a < b) : a.toInt < b.toInt := Int32.lt_iff_toInt_lt.mp h
theorem i_le {a b : Int32} (h : a ≤ b) : a.toInt ≤ b.toInt := Int32.le_iff_toInt_le.mp h
theorem i_nlt {a b : Int32} (h : ¬ a < b) : b.toInt ≤ a.toInt := Int32.le_iff_toInt_le.mp (Int32.not_lt.mp h)
theorem i_nle {a b : Int32} (h : ¬ a ≤ b) : b.toInt < a.toInt := Int32.lt_iff_toInt_lt.mp (Int32.not_le.mp h)
theorem i_eq {a b : Int32} (h : a = b) : a.toInt = b.toInt := congrArg _ h
theorem i_ne {a b : Int32} (h : ¬ a = b) : ¬ a.toInt = b.toInt := fun q => h (Int32.toInt_inj.mp q)
theorem i_bmod (x : Int) : ∃ k : Int, x.bmod (2 ^ 32) = x + 4294967296 * k := by
  refine ⟨-(x / 4294967296) + (if x % 4294967296 < 2147483648 then 0 else -1), ?_⟩
  unfold Int.bmod
  simp only []
  split <;> rename_i h <;> split <;> omega
theorem sp_add (a b : Int32) : ∃ k : Int, (a + b).toInt = a.toInt + b.toInt + 4294967296 * k ∧ -2147483648 ≤ (a + b).toInt ∧ (a + b).toInt < 2147483648 := by
  obtain ⟨k, h⟩ := i_bmod (a.toInt + b.toInt)
  exact ⟨k, by rw [Int32.toInt_add]; exact h, i_bd _⟩
theorem sp_sub (a b : Int32) : ∃ k : Int, (a - b).toInt = a.toInt - b.toInt + 4294967296 * k ∧ -2147483648 ≤ (a - b).toInt ∧ (a - b).toInt < 2147483648 := by
  obtain ⟨k, h⟩ := i_bmod (a.toInt - b.toInt)
  exact ⟨k, by rw [Int32.toInt_sub]; exact h, i_bd _⟩
theorem sp_mulc (a c : Int32) (n : Int) (hc : c.toInt = n) : ∃ k : Int, (a * c).toInt = a.toInt * n + 4294967296 * k ∧ -2147483648 ≤ (a * c).toInt ∧ (a * c).toInt < 2147483648 := by
  obtain ⟨k, h⟩ := i_bmod (a.toInt * c.toInt)
  exact ⟨k, by rw [Int32.toInt_mul, h, hc], i_bd _⟩
theorem sp_cmul (c a : Int32) (n : Int) (hc : c.toInt = n) : ∃ k : Int, (c * a).toInt = n * a.toInt + 4294967296 * k ∧ -2147483648 ≤ (c * a).toInt ∧ (c * a).toInt < 2147483648 := by
  obtain ⟨k, h⟩ := i_bmod (c.toInt * a.toInt)
  exact ⟨k, by rw [Int32.toInt_mul, h, hc], i_bd _⟩
/-- a product of two that are not large -/
theorem sp_mulr {a b : Int32} (m n : Int) (h1 : 0 ≤ a.toInt) (h2 : a.toInt ≤ m) (h3 : 0 ≤ b.toInt) (h4 : b.toInt ≤ n) (h5 : m * n < 2147483648) : 0 ≤ (a * b).toInt ∧ (a * b).toInt ≤ m * n := by
  have e1 : 0 ≤ a.toInt * b.toInt := Int.mul_nonneg h1 h3
  have e2 : a.toInt * b.toInt ≤ m * n := Int.mul_le_mul h2 h4 h3 (by omega)
  obtain ⟨k, h⟩ := i_bmod (a.toInt * b.toInt)
  have e3 : (a * b).toInt = a.toInt * b.toInt + 4294967296 * k := by rw [Int32.toInt_mul]; exact h
  have := i_bd (a * b)
  generalize a.toInt * b.toInt = z at *
  omega
theorem sp_div {a b : Int32} (h1 : 0 ≤ a.toInt) (h2 : 0 < b.toInt) : (a / b).toInt = a.toInt / b.toInt := by
  rw [Int32.toInt_div, Int.tdiv_eq_ediv_of_nonneg h1]
  have e1 : 0 ≤ a.toInt / b.toInt := Int.ediv_nonneg h1 (by omega)
  have e2 : a.toInt / b.toInt ≤ a.toInt := Int.ediv_le_self _ h1
  have := i_bd a
  obtain ⟨k, h⟩ := i_bmod (a.toInt / b.toInt)
  have h3 : -2147483648 ≤ (a.toInt / b.toInt).bmod (2 ^ 32) ∧ (a.toInt / b.toInt).bmod (2 ^ 32) < 2147483648 := by
    unfold Int.bmod
    simp only []
    split <;> omega
  generalize (a.toInt / b.toInt).bmod (2 ^ 32) = y at *
  omega
theorem sp_rem {a b : Int32} (h1 : 0 ≤ a.toInt) (h2 : 0 < b.toInt) : (a - a / b * b).toInt = a.toInt % b.toInt ∧ 0 ≤ (a - a / b * b).toInt ∧ (a - a / b * b).toInt < b.toInt ∧ (a - a / b * b).toInt ≤ a.toInt := by
  have e1 := sp_div h1 h2
  have e2 : 0 ≤ a.toInt % b.toInt := Int.emod_nonneg _ (by omega)
  have e3 : a.toInt % b.toInt < b.toInt := Int.emod_lt_of_pos _ h2
  have e4 : a.toInt / b.toInt * b.toInt + a.toInt % b.toInt = a.toInt := by rw [Int.mul_comm]; exact Int.mul_ediv_add_emod a.toInt b.toInt
  have e5 : 0 ≤ a.toInt / b.toInt * b.toInt := Int.mul_nonneg (Int.ediv_nonneg h1 (by omega)) (by omega)
  have hb := i_bd a
  obtain ⟨k, h⟩ := i_bmod ((a / b).toInt * b.toInt)
  have e6 : (a / b * b).toInt = (a / b).toInt * b.toInt + 4294967296 * k := by rw [Int32.toInt_mul]; exact h
  have e7 := i_bd (a / b * b)
  obtain ⟨k2, h8, h9, h10⟩ := sp_sub a (a / b * b)
  rw [e1] at e6
  generalize a.toInt / b.toInt * b.toInt = z at *
  have e8 : (a - a / b * b).toInt = a.toInt % b.toInt := by omega
  refine ⟨e8, ?_, ?_, ?_⟩ <;> omega
theorem gr {e : Int32} {n : Nat} (h1 : 0 ≤ e.toInt) (h2 : e.toInt < (n : Int)) : ¬ (e < 0 ∨ n ≤ Int32.toNatClampNeg e) := by
  have := vp_in_iff.mpr ⟨h1, h2⟩
  exact this
theorem nz {e : Int32} (h : ¬ e.toInt = 0) : ¬ e = 0 := fun q => h (by rw [q]; decide)
/-- one of two -/
theorem sp_itelt {a b c d x : Int32} (h : x = if a < b then c else d) : (a.toInt < b.toInt ∧ x.toInt = c.toInt) ∨ (b.toInt ≤ a.toInt ∧ x.toInt = d.toInt) := by
  by_cases q : a < b
  · rw [if_pos q] at h; exact Or.inl ⟨i_lt q, i_eq h⟩
  · rw [if_neg q] at h; exact Or.inr ⟨i_nlt q, i_eq h⟩
/-! bits -/
theorem i_of {x : Int32} {n : Nat} (h1 : 0 ≤ x.toInt) (h2 : x.toInt < (n : Int)) : ∃ j : Nat, j < n ∧ x = nI j := by
  refine ⟨x.toInt.toNat, by omega, Int32.toInt_inj.mp ?_⟩
  have := i_bd x
  rw [nI_toInt (by omega)]
  omega
theorem i_nat {j n : Nat} (h : j < n) (hn : n ≤ 2147483648) : 0 ≤ (nI j).toInt ∧ (nI j).toInt < (n : Int) := by
  rw [nI_toInt (by omega)]
  omega
theorem t64_or : ∀ a, a < 64 → ∀ b, b < 64 → 0 ≤ (nI a ||| nI b).toInt ∧ (nI a ||| nI b).toInt < 64 := by decide +kernel
theorem t64_xor : ∀ a, a < 64 → ∀ b, b < 64 → 0 ≤ (nI a ^^^ nI b).toInt ∧ (nI a ^^^ nI b).toInt < 64 := by decide +kernel
theorem t64_and : ∀ a, a < 64 → ∀ b, b < 64 → 0 ≤ (nI a &&& nI b).toInt ∧ (nI a &&& nI b).toInt ≤ (nI a).toInt := by decide +kernel
theorem t16_xor : ∀ a, a < 16 → ∀ b, b < 16 → 0 ≤ (nI a ^^^ nI b).toInt ∧ (nI a ^^^ nI b).toInt < 16 := by decide +kernel
theorem t16_or : ∀ a, a < 16 → ∀ b, b < 16 → 0 ≤ (nI a ||| nI b).toInt ∧ (nI a ||| nI b).toInt < 16 := by decide +kernel
theorem t_shl : ∀ a, a < 2 → ∀ b, b < 6 → 0 ≤ (nI a <<< (nI b &&& 31)).toInt ∧ (nI a <<< (nI b &&& 31)).toInt < 64 := by decide +kernel
theorem t_shl4 : ∀ b, b < 4 → 0 ≤ ((1 : Int32) <<< (nI b &&& 31)).toInt ∧ ((1 : Int32) <<< (nI b &&& 31)).toInt < 16 := by decide +kernel
theorem t_shl7 : ∀ b, b < 7 → 1 ≤ ((1 : Int32) <<< (nI b &&& 31)).toInt ∧ ((1 : Int32) <<< (nI b &&& 31)).toInt ≤ 64 := by decide +kernel
theorem sp_or64 {a b : Int32} (h1 : 0 ≤ a.toInt) (h2 : a.toInt < 64) (h3 : 0 ≤ b.toInt) (h4 : b.toInt < 64) : 0 ≤ (a ||| b).toInt ∧ (a ||| b).toInt < 64 := by
  obtain ⟨j, hj, rfl⟩ := i_of (n := 64) h1 h2
  obtain ⟨k, hk, rfl⟩ := i_of (n := 64) h3 h4
  exact t64_or j hj k hk
theorem sp_xor64 {a b : Int32} (h1 : 0 ≤ a.toInt) (h2 : a.toInt < 64) (h3 : 0 ≤ b.toInt) (h4 : b.toInt < 64) : 0 ≤ (a ^^^ b).toInt ∧ (a ^^^ b).toInt < 64 := by
  obtain ⟨j, hj, rfl⟩ := i_of (n := 64) h1 h2
  obtain ⟨k, hk, rfl⟩ := i_of (n := 64) h3 h4
  exact t64_xor j hj k hk
theorem sp_and64 {a b : Int32} (h1 : 0 ≤ a.toInt) (h2 : a.toInt < 64) (h3 : 0 ≤ b.toInt) (h4 : b.toInt < 64) : 0 ≤ (a &&& b).toInt ∧ (a &&& b).toInt ≤ a.toInt := by
  obtain ⟨j, hj, rfl⟩ := i_of (n := 64) h1 h2
  obtain ⟨k, hk, rfl⟩ := i_of (n := 64) h3 h4
  exact t64_and j hj k hk
theorem sp_xor16 {a b : Int32} (h1 : 0 ≤ a.toInt) (h2 : a.toInt < 16) (h3 : 0 ≤ b.toInt) (h4 : b.toInt < 16) : 0 ≤ (a ^^^ b).toInt ∧ (a ^^^ b).toInt < 16 := by
  obtain ⟨j, hj, rfl⟩ := i_of (n := 16) h1 h2
  obtain ⟨k, hk, rfl⟩ := i_of (n := 16) h3 h4
  exact t16_xor j hj k hk
theorem sp_or16 {a b : Int32} (h1 : 0 ≤ a.toInt) (h2 : a.toInt < 16) (h3 : 0 ≤ b.toInt) (h4 : b.toInt < 16) : 0 ≤ (a ||| b).toInt ∧ (a ||| b).toInt < 16 := by
  obtain ⟨j, hj, rfl⟩ := i_of (n := 16) h1 h2
  obtain ⟨k, hk, rfl⟩ := i_of (n := 16) h3 h4
  exact t16_or j hj k hk
theorem sp_shl {a b : Int32} (h1 : 0 ≤ a.toInt) (h2 : a.toInt < 2) (h3 : 0 ≤ b.toInt) (h4 : b.toInt < 6) : 0 ≤ (a <<< (b &&& 31)).toInt ∧ (a <<< (b &&& 31)).toInt < 64 := by
  obtain ⟨j, hj, rfl⟩ := i_of (n := 2) h1 h2
  obtain ⟨k, hk, rfl⟩ := i_of (n := 6) h3 h4
  exact t_shl j hj k hk
theorem sp_shl4 {b : Int32} (h3 : 0 ≤ b.toInt) (h4 : b.toInt < 4) : 0 ≤ ((1 : Int32) <<< (b &&& 31)).toInt ∧ ((1 : Int32) <<< (b &&& 31)).toInt < 16 := by
  obtain ⟨k, hk, rfl⟩ := i_of (n := 4) h3 h4
  exact t_shl4 k hk
theorem sp_shl7 {b : Int32} (h3 : 0 ≤ b.toInt) (h4 : b.toInt < 7) : 1 ≤ ((1 : Int32) <<< (b &&& 31)).toInt ∧ ((1 : Int32) <<< (b &&& 31)).toInt ≤ 64 := by
  obtain ⟨k, hk, rfl⟩ := i_of (n := 7) h3 h4
  exact t_shl7 k hk
/-! ranges of a memory's cells -/
def PW (rg : Nat → Nat → Int × Int) (v : Mm) : Prop := ∀ t i j, (rg t j).1 ≤ (v t i j).toInt ∧ (v t i j).toInt ≤ (rg t j).2
theorem PW.up {rg : Nat → Nat → Int × Int} {v : Mm} {t i j : Nat} {x : Int32} (h : PW rg v) (h1 : (rg t j).1 ≤ x.toInt ∧ x.toInt ≤ (rg t j).2) : PW rg (up3 v t i j x) := by
  intro t2 i2 j2
  unfold up3
  split
  · rename_i q
    obtain ⟨rfl, rfl, rfl⟩ := q
    exact h1
  · exact h t2 i2 j2
theorem PW.cpy {rg : Nat → Nat → Int × Int} {v : Mm} {t i1 i2 sp dp n : Nat} (h : PW rg v) (hr : ∀ a b, rg t a = rg t b) : PW rg (cpy3 v t i1 sp t i2 dp n) := by
  intro t2 k2 j2
  unfold cpy3 row3
  split
  · rename_i q
    obtain ⟨rfl, rfl⟩ := q
    unfold va_cpy
    split
    · rw [hr j2 (sp + (j2 - dp))]; exact h _ _ _
    · exact h _ _ _
  · exact h _ _ _
/-- the class's cells -/
def rgX : Nat → Nat → Int × Int := fun t j => match t with
  | 2 => if j = 2 then (0, 40) else (-2147483648, 2147483647)
  | 4 => if j = 2 then (0, 100) else if j = 5 then (0, 100) else if j = 6 then (0, 999) else (-2147483648, 2147483647)
  | 5 => (0, 255)
  | 6 => if j = 4 then (0, 9) else if j = 5 then (0, 6) else if j = 6 then (0, 6) else if j = 7 then (0, 4) else (-2147483648, 2147483647)
  | 10 => if j = 4 then (0, 999) else if j = 5 then (0, 9) else if j = 6 then (0, 15) else if j = 7 then (0, 9) else (-2147483648, 2147483647)
  | 12 => (0, 5)
  | 15 => if j = 1 then (0, 23) else if j = 2 then (0, 24) else (-2147483648, 2147483647)
  | 19 => (0, 63)
  | 20 => (0, 1000)
  | 21 => if j = 1 then (0, 16) else (-2147483648, 2147483647)
  | _ => (-2147483648, 2147483647)
theorem PW_X0 : PW rgX vX0 := by
  intro t i j
  unfold vX0
  split
  · rename_i q
    obtain ⟨rfl, rfl⟩ := q
    decide
  · have e : (0 : Int32).toInt = 0 := by decide
    rw [e]
    unfold rgX
    split <;> (repeat' split) <;> decide
theorem up3_s {v : Mm} {t i j : Nat} {x : Int32} : up3 v t i j x t i j = x := by simp [up3]
theorem up3_t {v : Mm} {t i j t2 i2 j2 : Nat} {x : Int32} (h : t2 ≠ t) : up3 v t i j x t2 i2 j2 = v t2 i2 j2 := by
  unfold up3; rw [if_neg (fun q => h q.1)]
theorem up3_i {v : Mm} {t i j t2 i2 j2 : Nat} {x : Int32} (h : i2 ≠ i) : up3 v t i j x t2 i2 j2 = v t2 i2 j2 := by
  unfold up3; rw [if_neg (fun q => h q.2.1)]
theorem up3_j {v : Mm} {t i j t2 i2 j2 : Nat} {x : Int32} (h : j2 ≠ j) : up3 v t i j x t2 i2 j2 = v t2 i2 j2 := by
  unfold up3; rw [if_neg (fun q => h q.2.2)]
theorem cpy3_t {v : Mm} {t1 i1 sp t i dp n t2 i2 j2 : Nat} (h : t2 ≠ t) : cpy3 v t1 i1 sp t i dp n t2 i2 j2 = v t2 i2 j2 := by
  unfold cpy3 row3; rw [if_neg (fun q => h q.1)]
theorem gr3 {sp dp n : Int32} {n0 n1 : Nat} (h1 : 0 ≤ sp.toInt) (h2 : 0 ≤ dp.toInt) (h3 : 0 ≤ n.toInt) (h4 : sp.toInt + n.toInt ≤ (n0 : Int)) (h5 : dp.toInt + n.toInt ≤ (n1 : Int)) : ¬ (sp < 0 ∨ dp < 0 ∨ n < 0 ∨ n0 < (Int32.toNatClampNeg sp) + (Int32.toNatClampNeg n) ∨ n1 < (Int32.toNatClampNeg dp) + (Int32.toNatClampNeg n)) := by
  have e0 : (0 : Int32).toInt = 0 := by decide
  have c1 : sp.toNatClampNeg = sp.toInt.toNat := rfl
  have c2 : dp.toNatClampNeg = dp.toInt.toNat := rfl
  have c3 : n.toNatClampNeg = n.toInt.toNat := rfl
  rw [c1, c2, c3]
  intro h
  rcases h with h | h | h | h | h
  · have := i_lt h; omega
  · have := i_lt h; omega
  · have := i_lt h; omega
  · omega
  · omega
theorem k_X7_rest (v : Mm) (hI_v : PW rgX v) (a0 a1 : Int32) (h_a0 : (0 : Int) ≤ a0.toInt) (h_a1 : (0 : Int) ≤ a1.toInt) : ok (g_X7_rest v a0 a1) (fun z => (0 : Int) ≤ z.toInt ∧ z.toInt ≤ a1.toInt ∧ (0 < a1.toInt → z.toInt < a1.toInt)) := by
  have e0 : (0 : Int32).toInt = 0 := by decide
  unfold g_X7_rest
  refine ok_ite _ (fun c1 => ?_) (fun c1 => ?_)
  · have := i_le c1
    refine ok_some ?_
    show (0 : Int) ≤ (0 : Int32).toInt ∧ (0 : Int32).toInt ≤ a1.toInt ∧ (0 < a1.toInt → (0 : Int32).toInt < a1.toInt)
    omega
  · have h1 := i_nle c1
    refine ok_grd _ (nz (by omega)) ?_
    refine ok_some ?_
    have := sp_rem (a := a0) (b := a1) (by omega) (by omega)
    show (0 : Int) ≤ (a0 - a0 / a1 * a1).toInt ∧ (a0 - a0 / a1 * a1).toInt ≤ a1.toInt ∧ (0 < a1.toInt → (a0 - a0 / a1 * a1).toInt < a1.toInt)
    omega
theorem bc_63 : ∀ x : Int32, ∃ j : Nat, j < 64 ∧ x &&& 63 = nI j := by
  intro x
  refine ⟨(x &&& 63).toInt.toNat, ?_⟩
  have h : 0 ≤ (x &&& 63).toInt ∧ (x &&& 63).toInt < 64 := by
    have e : (x &&& 63).toBitVec = x.toBitVec &&& 63#32 := rfl
    have e2 : (x &&& 63).toBitVec.toNat < 64 := by
      rw [e, BitVec.toNat_and]
      exact Nat.lt_of_le_of_lt Nat.and_le_right (by decide)
    have e3 : (x &&& 63).toInt = (x &&& 63).toBitVec.toInt := rfl
    rw [e3, BitVec.toInt_eq_toNat_cond]
    rw [if_pos (by omega)]
    omega
  refine ⟨by omega, Int32.toInt_inj.mp ?_⟩
  rw [nI_toInt (by omega)]
  omega
theorem bc_rg (x : Int32) : 0 ≤ (x &&& 63).toInt ∧ (x &&& 63).toInt ≤ 63 := by
  obtain ⟨j, hj, e⟩ := bc_63 x
  rw [e, nI_toInt (by omega)]
  omega
theorem k_J6_bitCount_0f7a4 (v : Mm) (a0 : Int32) : ok (g_J6_bitCount_0f7a4 v a0) (fun z => (0 : Int) ≤ z.toInt ∧ z.toInt ≤ 63) := by
  unfold g_J6_bitCount_0f7a4
  repeat (first | exact ok_some (bc_rg _) | refine ok_let (fun _ _ => ?_))
theorem t_shl5 : ∀ b, b < 5 → 1 ≤ ((1 : Int32) <<< (nI b &&& 31)).toInt ∧ ((1 : Int32) <<< (nI b &&& 31)).toInt ≤ 16 := by decide +kernel
theorem sp_shl5 {b : Int32} (h3 : 0 ≤ b.toInt) (h4 : b.toInt < 5) : 1 ≤ ((1 : Int32) <<< (b &&& 31)).toInt ∧ ((1 : Int32) <<< (b &&& 31)).toInt ≤ 16 := by
  obtain ⟨k, hk, rfl⟩ := i_of (n := 5) h3 h4
  exact t_shl5 k hk
/-- what stands at the tape's place -/
def hereF (v : Mm) : Int32 := if v 4 0 2 ≤ v 4 0 5 then -1 else v 5 0 (Int32.toNatClampNeg (v 4 0 5))
theorem k_X6_here (v : Mm) (hI_v : PW rgX v) : ok (g_X6_here v) (fun z => (-1 : Int) ≤ Int32.toInt z ∧ Int32.toInt z ≤ (255 : Int) ∧ (Int32.toInt z = Int32.toInt (hereF v)) ∧ (Int32.toInt z = -1 ∨ Int32.toInt (v 4 0 5) < Int32.toInt (v 4 0 2))) := by
  have e1 : (-1 : Int32).toInt = -1 := by decide
  unfold g_X6_here hereF
  refine ok_ite _ (fun c => ?_) (fun c => ?_)
  · refine ok_some ?_
    rw [if_pos c, e1]
    omega
  · have h1 := i_nle c
    have h2 : (0 : Int) ≤ (v 4 0 5).toInt ∧ (v 4 0 5).toInt ≤ (100 : Int) := hI_v 4 0 5
    have h3 : (0 : Int) ≤ (v 4 0 2).toInt ∧ (v 4 0 2).toInt ≤ (100 : Int) := hI_v 4 0 2
    refine ok_grd _ (gr (by omega) (by omega)) (ok_some ?_)
    rw [if_neg c]
    have h4 : (0 : Int) ≤ (v 5 0 (Int32.toNatClampNeg (v 4 0 5))).toInt ∧ (v 5 0 (Int32.toNatClampNeg (v 4 0 5))).toInt ≤ (255 : Int) := hI_v 5 0 _
    omega
theorem k_X4_become (v : Mm) (hI_v : PW rgX v) (i0 : Nat) (i1 : Nat) : ok (g_X4_become v i0 i1) (fun z => PW rgX z ∧ (i0 = 0 ∨ Int32.toInt (z 10 0 4) = Int32.toInt (v 10 0 4))) := by
  unfold g_X4_become
  refine ok_let (fun v1 e1 => ?_)
  have h1 : PW rgX v1 := by rw [e1]; exact hI_v.up (hI_v 10 i1 4)
  refine ok_let (fun v2 e2 => ?_)
  have h2 : PW rgX v2 := by rw [e2]; exact h1.up (h1 10 i1 5)
  refine ok_let (fun v3 e3 => ?_)
  have h3 : PW rgX v3 := by rw [e3]; exact h2.up (h2 10 i1 6)
  refine ok_let (fun v4 e4 => ?_)
  have h4 : PW rgX v4 := by rw [e4]; exact h3.up (h3 10 i1 7)
  refine ok_let (fun v5 e5 => ?_)
  have h5 : PW rgX v5 := by rw [e5]; exact h4.cpy (fun _ _ => rfl)
  refine ok_let (fun v6 e6 => ?_)
  have h6 : PW rgX v6 := by rw [e6]; exact h5.cpy (fun _ _ => rfl)
  refine ok_let (fun v7 e7 => ?_)
  have h7 : PW rgX v7 := by rw [e7]; exact h6.cpy (fun _ _ => rfl)
  refine ok_let (fun v8 e8 => ?_)
  have h8 : PW rgX v8 := by rw [e8]; exact h7.cpy (fun _ _ => rfl)
  refine ok_some ⟨h8, ?_⟩
  by_cases q : i0 = 0
  · exact Or.inl q
  · refine Or.inr ?_
    have q2 : (0 : Nat) ≠ i0 := fun h => q h.symm
    rw [e8, cpy3_t (by decide), e7, cpy3_t (by decide), e6, cpy3_t (by decide), e5, cpy3_t (by decide), e4, up3_i q2, e3, up3_i q2, e2, up3_i q2, e1, up3_i q2]
theorem sp_addx (a b : Int32) (h : -2147483648 ≤ a.toInt + b.toInt ∧ a.toInt + b.toInt < 2147483648) : (a + b).toInt = a.toInt + b.toInt := by
  obtain ⟨k, hk⟩ := sp_add a b
  omega
theorem sp_subx (a b : Int32) (h : -2147483648 ≤ a.toInt - b.toInt ∧ a.toInt - b.toInt < 2147483648) : (a - b).toInt = a.toInt - b.toInt := by
  obtain ⟨k, hk⟩ := sp_sub a b
  omega
theorem sp_mulcx (a c : Int32) (n : Int) (hc : c.toInt = n) (h : -2147483648 ≤ a.toInt * n ∧ a.toInt * n < 2147483648) : (a * c).toInt = a.toInt * n := by
  obtain ⟨k, hk⟩ := sp_mulc a c n hc
  generalize a.toInt * n = z at *
  omega
theorem sp_cmulx (c a : Int32) (n : Int) (hc : c.toInt = n) (h : -2147483648 ≤ n * a.toInt ∧ n * a.toInt < 2147483648) : (c * a).toInt = n * a.toInt := by
  obtain ⟨k, hk⟩ := sp_cmul c a n hc
  generalize n * a.toInt = z at *
  omega
theorem sp_andl {a b : Int32} (h1 : 0 ≤ a.toInt) (h2 : a.toInt < 64) : 0 ≤ (a &&& b).toInt ∧ (a &&& b).toInt ≤ a.toInt := by
  have e : (a &&& b).toBitVec = a.toBitVec &&& b.toBitVec := rfl
  have ea : a.toInt = a.toBitVec.toInt := rfl
  have e3 : (a &&& b).toInt = (a &&& b).toBitVec.toInt := rfl
  have e4 : (a &&& b).toBitVec.toNat ≤ a.toBitVec.toNat := by
    rw [e, BitVec.toNat_and]; exact Nat.and_le_left
  have e5 := BitVec.toInt_eq_toNat_cond a.toBitVec
  have e6 := a.toBitVec.isLt
  have e7 : a.toBitVec.toNat < 64 := by
    rw [ea, e5] at h1 h2
    split at h1 <;> omega
  have e8 := BitVec.toInt_eq_toNat_cond (a &&& b).toBitVec
  rw [if_pos (by omega)] at e5 e8
  omega
theorem one_of {r : Int32} (h1 : (0 : Int) ≤ r.toInt) (h2 : r.toInt ≤ (1 : Int)) (h : ¬ r = 0) : r.toInt = 1 := by
  have q := i_ne h
  have e0 : (0 : Int32).toInt = 0 := by decide
  omega
theorem orr {r : Int} {X : Prop} (h : r = 0 ∨ X) (h1 : r = 1) : X := h.elim (fun q => absurd (q.symm.trans h1) (by decide)) id
