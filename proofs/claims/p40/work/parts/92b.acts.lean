/-! what the calls test first -/
theorem b01_n {c : Prop} [Decidable c] {α : Type} (A B : α) : (if b01 c = 0 then A else B) = if c then B else A := b01_z A B
theorem bx_nog {α : Type} (v : Mm) (A B : Option α) : Option.bind (g_X7_noGate v) (fun r => if r = 0 then A else B) = if v 6 0 6 = 0 then B else A := by
  unfold g_X7_noGate
  by_cases h : v 6 0 6 = 0
  · rw [if_pos h, if_pos h]; exact bind1 A B
  · rw [if_neg h, if_neg h]; exact bind0 A B
theorem bm_isg {α : Type} (v : Mm) (h0 : 0 ≤ (v 36 0 3).toInt) (A B : Option α) : Option.bind (g_X8_isGate v) (fun r => if r = 0 then B else A) = if v 36 0 3 = 0 then B else A := by
  have e0 : (0 : Int32).toInt = 0 := by decide
  unfold g_X8_isGate
  rw [tc_3]
  by_cases h : v 36 0 3 = 0
  · rw [if_pos (by rw [h]; decide), if_pos h]; exact bind0 B A
  · rw [if_neg (fun q => h (Int32.toInt_inj.mp (by have := i_le q; omega))), if_neg h]; exact bind1 B A
theorem rngx {α : Type} (a hi : Int32) (A B : α) : (if a < 0 then A else if hi ≤ a then A else B) = if 0 ≤ a.toInt ∧ a.toInt < hi.toInt then B else A := by
  have e0 : (0 : Int32).toInt = 0 := by decide
  by_cases h1 : a < 0
  · rw [if_pos h1, if_neg (fun q => by have := i_lt h1; omega)]
  · by_cases h2 : hi ≤ a
    · rw [if_neg h1, if_pos h2, if_neg (fun q => by have := i_le h2; omega)]
    · rw [if_neg h1, if_neg h2, if_pos ⟨by have := i_nlt h1; omega, i_nle h2⟩]
theorem bx_word {α : Type} (v : Mm) (a : Int32) (A B : Option α) : Option.bind (g_X7_isWord v a) (fun r => if r = 0 then A else B) = if 0 ≤ a.toInt ∧ a.toInt < (v 6 0 6).toInt then B else A := by
  unfold g_X7_isWord
  rw [rngx]
  by_cases h : 0 ≤ a.toInt ∧ a.toInt < (v 6 0 6).toInt
  · rw [if_pos h, if_pos h]; exact bind1 A B
  · rw [if_neg h, if_neg h]; exact bind0 A B
theorem bx_guard {α : Type} (v : Mm) (a : Int32) (A B : Option α) : Option.bind (g_X7_isGuard v a) (fun r => if r = 0 then A else B) = if 0 ≤ a.toInt ∧ a.toInt < (v 6 0 7).toInt then B else A := by
  unfold g_X7_isGuard
  rw [rngx]
  by_cases h : 0 ≤ a.toInt ∧ a.toInt < (v 6 0 7).toInt
  · rw [if_pos h, if_pos h]; exact bind1 A B
  · rw [if_neg h, if_neg h]; exact bind0 A B
theorem bx_hour {α : Type} (v : Mm) (a : Int32) (A B : Option α) : Option.bind (g_X7_isHour v a) (fun r => if r = 0 then A else B) = if 0 ≤ a.toInt ∧ a.toInt < 6 then B else A := by
  unfold g_X7_isHour
  rw [rngx]
  show _ = if 0 ≤ a.toInt ∧ a.toInt < (6 : Int32).toInt then B else A
  by_cases h : 0 ≤ a.toInt ∧ a.toInt < (6 : Int32).toInt
  · rw [if_pos h, if_pos h]; exact bind1 A B
  · rw [if_neg h, if_neg h]; exact bind0 A B
theorem bm_in {α : Type} (v : Mm) (a lo hi : Int32) (A B : Option α) : Option.bind (Option.bind (g_X8_in v a lo hi) (fun r2 => some r2)) (fun r => if r = 0 then A else B) = if lo.toInt ≤ a.toInt ∧ a.toInt ≤ hi.toInt then B else A := by
  rw [q_X8_in]
  exact b01_z A B
theorem bm_word {α : Type} (v : Mm) (h0 : 0 ≤ (v 36 0 3).toInt) (a : Int32) (A B : Option α) : Option.bind (g_X8_isWord v a) (fun r => if r = 0 then A else B) = if 0 ≤ a.toInt ∧ a.toInt < (v 36 0 3).toInt then B else A := by
  have e0 : (0 : Int32).toInt = 0 := by decide
  have e1 : (1 : Int32).toInt = 1 := by decide
  have hb := i_bd (v 36 0 3)
  unfold g_X8_isWord
  rw [bm_in, tc_3]
  have s := sp_subx (v 36 0 3) 1 (by omega)
  by_cases h : 0 ≤ a.toInt ∧ a.toInt < (v 36 0 3).toInt
  · rw [if_pos (by omega), if_pos h]
  · rw [if_neg (by omega), if_neg h]
theorem bm_guard {α : Type} (v : Mm) (h0 : 0 ≤ (v 36 0 4).toInt) (a : Int32) (A B : Option α) : Option.bind (g_X8_isGuard v a) (fun r => if r = 0 then A else B) = if 0 ≤ a.toInt ∧ a.toInt < (v 36 0 4).toInt then B else A := by
  have e0 : (0 : Int32).toInt = 0 := by decide
  have e1 : (1 : Int32).toInt = 1 := by decide
  have hb := i_bd (v 36 0 4)
  unfold g_X8_isGuard
  rw [bm_in, tc_4]
  have s := sp_subx (v 36 0 4) 1 (by omega)
  by_cases h : 0 ≤ a.toInt ∧ a.toInt < (v 36 0 4).toInt
  · rw [if_pos (by omega), if_pos h]
  · rw [if_neg (by omega), if_neg h]
theorem bm_hour {α : Type} (v : Mm) (a : Int32) (A B : Option α) : Option.bind (g_X8_isHour v a) (fun r => if r = 0 then A else B) = if 0 ≤ a.toInt ∧ a.toInt < 6 then B else A := by
  have e0 : (0 : Int32).toInt = 0 := by decide
  have e5 : (5 : Int32).toInt = 5 := by decide
  unfold g_X8_isHour
  rw [bm_in]
  by_cases h : 0 ≤ a.toInt ∧ a.toInt < 6
  · rw [if_pos (by omega), if_pos h]
  · rw [if_neg (by omega), if_neg h]
theorem bx_far {α : Type} (v : Mm) (a : Int32) (A B : Option α) : Option.bind (g_X7_isAhead v a) (fun r => if r = 0 then A else B) = if 0 ≤ a.toInt ∧ a.toInt ≤ 60 then B else A := by
  have e0 : (0 : Int32).toInt = 0 := by decide
  have e60 : (60 : Int32).toInt = 60 := by decide
  unfold g_X7_isAhead
  rw [rng2]
  by_cases h : 0 ≤ a.toInt ∧ a.toInt ≤ 60
  · rw [if_pos (by omega), if_pos h]; exact bind1 A B
  · rw [if_neg (by omega), if_neg h]; exact bind0 A B
theorem bm_far {α : Type} (v : Mm) (a : Int32) (A B : Option α) : Option.bind (g_X8_isFar v a) (fun r => if r = 0 then A else B) = if 0 ≤ a.toInt ∧ a.toInt ≤ 60 then B else A := by
  have e0 : (0 : Int32).toInt = 0 := by decide
  have e60 : (60 : Int32).toInt = 60 := by decide
  unfold g_X8_isFar
  rw [bm_in]
  by_cases h : 0 ≤ a.toInt ∧ a.toInt ≤ 60
  · rw [if_pos (by omega), if_pos h]
  · rw [if_neg (by omega), if_neg h]
theorem rng3 {α : Type} (a hi : Int32) (A B : α) : (if a < 0 then A else if a ≤ hi then B else A) = if 0 ≤ a.toInt ∧ a.toInt ≤ hi.toInt then B else A := by
  have e0 : (0 : Int32).toInt = 0 := by decide
  by_cases h1 : a < 0
  · rw [if_pos h1, if_neg (fun q => by have := i_lt h1; omega)]
  · by_cases h2 : a ≤ hi
    · rw [if_neg h1, if_pos h2, if_pos ⟨by have := i_nlt h1; omega, i_le h2⟩]
    · rw [if_neg h1, if_neg h2, if_neg (fun q => by have := i_nle h2; omega)]
theorem rng4 {α : Type} (a hi : Int32) (A B : α) : (if a < 0 then A else if a < hi then B else A) = if 0 ≤ a.toInt ∧ a.toInt < hi.toInt then B else A := by
  have e0 : (0 : Int32).toInt = 0 := by decide
  by_cases h1 : a < 0
  · rw [if_pos h1, if_neg (fun q => by have := i_lt h1; omega)]
  · by_cases h2 : a < hi
    · rw [if_neg h1, if_pos h2, if_pos ⟨by have := i_nlt h1; omega, i_lt h2⟩]
    · rw [if_neg h1, if_neg h2, if_neg (fun q => by have := i_nlt h2; omega)]
/-! the gate on both sides, with what can be undone -/
def GB (vx vm : Mm) : Prop := RSt vx 0 vm 36 0 ∧ RMo vx 0 vm 36 0 ∧ RAc vx vm
theorem RSt.sc {vx wx vm wm : Mm} (h : RSt vx 0 vm 36 0) (hx : ∀ t j, 6 ≤ t → t ≤ 9 → wx t 0 j = vx t 0 j) (hm : ∀ j, stc j → wm 36 0 j = vm 36 0 j) : RSt wx 0 wm 36 0 :=
  h.mv (fun j _ _ => hx 6 j (by omega) (by omega)) (fun j _ => hx 7 j (by omega) (by omega)) (fun j _ => hx 8 j (by omega) (by omega)) (fun j _ => hx 9 j (by omega) (by omega)) (fun j hj => by rw [Nat.zero_add]; exact hm j hj)
theorem RAc.sc {vx wx vm wm : Mm} (h : RAc vx vm) (hx : ∀ t j, 6 ≤ t → t ≤ 9 → wx t 0 j = vx t 0 j) (h15 : ∀ j, j < 3 → wx 15 0 j = vx 15 0 j) (hr : ∀ t i j, 10 ≤ t → t ≤ 14 → 4 ≤ i → wx t i j = vx t i j) (h17 : wm 30 0 17 = vm 30 0 17) (h39 : ∀ j, wm 39 0 j = vm 39 0 j) : RAc wx wm := by
  obtain ⟨a1, a2, a3, a4⟩ := h
  unfold RAc
  rw [h15 1 (by omega), h15 2 (by omega), h17]
  refine ⟨a1, a2, a3, fun k hk => ?_⟩
  obtain ⟨p1, p2⟩ := a4 k hk
  refine ⟨p1.mv (fun j _ _ => hx 6 j (by omega) (by omega)) (fun j _ => hx 7 j (by omega) (by omega)) (fun j _ => hx 8 j (by omega) (by omega)) (fun j _ => hx 9 j (by omega) (by omega)) (fun j _ => h39 _), p2.mv (fun j _ _ => hr 10 _ j (by omega) (by omega) (by omega)) (fun j _ => hr 11 _ j (by omega) (by omega) (by omega)) (fun j _ => hr 12 _ j (by omega) (by omega) (by omega)) (fun j _ => hr 13 _ j (by omega) (by omega) (by omega)) (fun j _ => hr 14 _ j (by omega) (by omega) (by omega)) (fun j _ => h39 _)⟩
/-- an act noted: the gate stands as it stood -/
theorem r_noteG {vx vm : Mm} (h : GB vx vm) : rel (g_X0_keep vx 0) (g_X8_notes vm) (fun a b => GB a b ∧ (∀ t i j, ¬ (4 ≤ i ∧ 10 ≤ t ∧ t ≤ 14) → t ≠ 15 → a t i j = vx t i j) ∧ ∀ t i j, t ≠ 39 → ¬ (t = 30 ∧ i = 0 ∧ j = 17) → b t i j = vm t i j) := by
  refine (r_note h.1 h.2.1 h.2.2).mono (fun a b hab => ?_)
  obtain ⟨p1, p2, p3⟩ := hab
  have hm : ∀ j, b 36 0 j = vm 36 0 j := fun j => p3 36 0 j (by decide) (by omega)
  refine ⟨⟨h.1.sc (fun t j h1 h2 => p2 t 0 j (by omega) (by omega)) (fun j _ => hm j), h.2.1.mv (fun j _ _ => p2 10 0 j (by omega) (by decide)) (fun j _ => p2 11 0 j (by omega) (by decide)) (fun j _ => p2 12 0 j (by omega) (by decide)) (fun j _ => p2 13 0 j (by omega) (by decide)) (fun j _ => p2 14 0 j (by omega) (by decide)) (fun j _ => hm _), p1⟩, p2, p3⟩
/-- what an act leaves alone -/
def ACX (vx wx : Mm) : Prop := ∀ t i j, ¬ ((i = 0 ∨ 4 ≤ i) ∧ 10 ≤ t ∧ t ≤ 14) → t ≠ 15 → wx t i j = vx t i j
def ACM (vm wm : Mm) : Prop := ∀ t i j, t ≠ 39 → t ≠ 36 → ¬ (t = 30 ∧ i = 0 ∧ j = 17) → wm t i j = vm t i j
def actQ (vx vm : Mm) (a b : Int32 × Mm) : Prop := a.1 = b.1 ∧ GB a.2 b.2 ∧ ACX vx a.2 ∧ ACM vm b.2
theorem actQ_same {vx vm : Mm} {r : Int32} (h : GB vx vm) : actQ vx vm (r, vx) (r, vm) := ⟨rfl, h, fun _ _ _ _ _ => rfl, fun _ _ _ _ _ _ => rfl⟩
theorem actQ_mk {vx vm z w : Mm} {r1 r2 : Int32} (e : r1 = r2) (h : GB z w) (h1 : ACX vx z) (h2 : ACM vm w) : actQ vx vm (r1, z) (r2, w) := ⟨e, h, h1, h2⟩
theorem RMo.sc {vx wx vm wm : Mm} (h : RMo vx 0 vm 36 0) (hx : ∀ t j, 11 ≤ t → t ≤ 14 → wx t 0 j = vx t 0 j) (hm : ∀ j, (j = 3 ∨ j = 4 ∨ (8 ≤ j ∧ j < 38)) → wm 36 0 j = vm 36 0 j) (hm2 : 0 < (wm 36 0 7).toInt → ∀ j, 38 ≤ j → wm 36 0 j = vm 36 0 j) (e5 : wx 10 0 5 = wm 36 0 0) (e4 : wx 10 0 4 = wm 36 0 5) (e6 : wx 10 0 6 = wm 36 0 6) (e7 : wx 10 0 7 = wm 36 0 7) (l7 : 0 < (wm 36 0 7).toInt → (wm 36 0 7).toInt ≤ (vm 36 0 7).toInt) (b0 : 0 ≤ (wm 36 0 6).toInt) (b1 : (wm 36 0 6).toInt ≤ (allg (vm 36 0 4)).toInt) : RMo wx 0 wm 36 0 := by
  obtain ⟨m1, m2, m3, m4, m5, m6, m7, m8⟩ := h
  unfold RMo
  simp only [Nat.zero_add] at m5 m6 ⊢
  refine ⟨e5, e4, e6, e7, fun g hg => ?_, fun k hk hw => ?_, b0, ?_⟩
  · rw [hx 11 g (by omega) (by omega), hm 4 (by omega), hm (26 + 3 * g + 2) (by omega)]; exact m5 g hg
  · have hp : 0 < (wm 36 0 7).toInt := by omega
    rw [hx 12 k (by omega) (by omega), hx 13 k (by omega) (by omega), hx 14 k (by omega) (by omega), hm 3 (by omega), hm 4 (by omega), hm2 hp (38 + 3 * k) (by omega), hm2 hp (38 + 3 * k + 1) (by omega), hm2 hp (38 + 3 * k + 2) (by omega)]
    have := l7 hp
    exact m6 k hk (by omega)
  · rw [hm 4 (by omega)]; exact b1
theorem rel_note {vx vm : Mm} {F : Mm → Option (Int32 × Mm)} {K : Mm → Option (Int32 × Mm)} {Q : (Int32 × Mm) → (Int32 × Mm) → Prop} (h : GB vx vm) (k : ∀ z w, GB z w → (∀ t i j, ¬ (4 ≤ i ∧ 10 ≤ t ∧ t ≤ 14) → t ≠ 15 → z t i j = vx t i j) → (∀ t i j, t ≠ 39 → ¬ (t = 30 ∧ i = 0 ∧ j = 17) → w t i j = vm t i j) → rel (F z) (K w) Q) : rel (Option.bind (g_X0_keep vx 0) F) (Option.bind (g_X8_notes vm) K) Q := by
  intro a b ea eb
  cases qa : g_X0_keep vx 0 with
  | none => rw [qa] at ea; cases ea
  | some z =>
    cases qb : g_X8_notes vm with
    | none => rw [qb] at eb; cases eb
    | some w =>
      obtain ⟨g, p2, p3⟩ := r_noteG h z w qa qb
      rw [qa] at ea
      rw [qb] at eb
      exact k z w g p2 p3 a b ea eb
theorem r_start {vx vm : Mm} (hX : PW rgX vx) (h : GB vx vm) (a1 : Int32) : rel (g_X7_start vx a1) (g_X8_start vm a1) (actQ vx vm) := by
  have hw : (0 : Int) ≤ (vx 6 0 6).toInt ∧ (vx 6 0 6).toInt ≤ (6 : Int) := hX 6 0 6
  have ew : vx 6 0 6 = vm 36 0 3 := h.1.2.2.1
  unfold g_X7_start g_X8_start
  rw [bx_nog, bm_isg vm (by rw [← ew]; exact hw.1), rng3, b_in, ← ew]
  refine rel_ite Iff.rfl (fun _ => rel_some (actQ_same h)) (fun _ => ?_)
  refine rel_ite Iff.rfl (fun _ => ?_) (fun _ => rel_some (actQ_same h))
  refine rel_note h (fun z w g p2 p3 => ?_)
  rw [tc_0]
  refine rel_letL (fun z1 e1 => rel_letR (fun w1 e2 => ?_))
  obtain ⟨m1, m2, m3, m4, m5, m6, m7, m8⟩ := id g.2.1
  have xt : ∀ t i j, ¬ (t = 10 ∧ i = 0 ∧ j = 5) → z1 t i j = z t i j := fun t i j q => by rw [e1]; unfold up3; exact if_neg q
  have mt : ∀ j, j ≠ 0 → w1 36 0 j = w 36 0 j := fun j q => by rw [e2]; exact up3_j q
  have wt : ∀ t i j, t ≠ 36 → w1 t i j = w t i j := fun t i j q => by rw [e2]; exact up3_t q
  refine rel_some (actQ_mk ?_ ⟨g.1.sc (fun t j _ _ => xt t 0 j (by omega)) (fun j hj => mt j (by unfold stc at hj; omega)), g.2.1.sc (fun t j _ _ => xt t 0 j (by omega)) (fun j _ => mt j (by omega)) (fun _ j _ => mt j (by omega)) ?_ ?_ ?_ ?_ ?_ ?_ ?_, g.2.2.sc (fun t j _ _ => xt t 0 j (by omega)) (fun j _ => xt 15 0 j (by omega)) (fun t i j _ _ _ => xt t i j (by omega)) (wt 30 0 17 (by decide)) (fun j => wt 39 0 j (by decide))⟩ ?_ ?_)
  · show vx 10 0 5 = w 36 0 0
    rw [p3 36 0 0 (by decide) (by omega)]; exact h.2.1.1
  · rw [e1, e2, up3_s, up3_s]
  · rw [xt 10 0 4 (by omega), mt 5 (by omega)]; exact m2
  · rw [xt 10 0 6 (by omega), mt 6 (by omega)]; exact m3
  · rw [xt 10 0 7 (by omega), mt 7 (by omega)]; exact m4
  · intro _
    rw [mt 7 (by omega)]; exact Int.le_refl _
  · rw [mt 6 (by omega)]; exact m7
  · rw [mt 6 (by omega)]; exact m8
  · intro t i j h1 h2
    show z1 t i j = vx t i j
    rw [xt t i j (by omega)]; exact p2 t i j (by omega) h2
  · intro t i j h1 h2 h3
    show w1 t i j = vm t i j
    rw [e2, up3_t h2]; exact p3 t i j h1 h3
theorem t_xor : ∀ n, n < 5 → ∀ g, g < n → ∀ x, x < 16 → (nI x).toInt ≤ (allg (nI n)).toInt → 0 ≤ ((nI x) ^^^ ((1 : Int32) <<< (nI g &&& 31))).toInt ∧ ((nI x) ^^^ ((1 : Int32) <<< (nI g &&& 31))).toInt ≤ (allg (nI n)).toInt := by decide +kernel
theorem xor_rg {x g n : Int32} (hn : 0 ≤ n.toInt ∧ n.toInt ≤ 4) (hg : 0 ≤ g.toInt ∧ g.toInt < n.toInt) (hx : 0 ≤ x.toInt ∧ x.toInt ≤ 15) (hb : x.toInt ≤ (allg n).toInt) : 0 ≤ (x ^^^ ((1 : Int32) <<< (g &&& 31))).toInt ∧ (x ^^^ ((1 : Int32) <<< (g &&& 31))).toInt ≤ (allg n).toInt := by
  obtain ⟨a, ha, ea⟩ := i_of (n := 5) hn.1 (by omega)
  obtain ⟨b, hb2, eb⟩ := i_of (n := 4) hg.1 (by omega)
  obtain ⟨c, hc, ec⟩ := i_of (n := 16) hx.1 (by omega)
  have hba : b < a := by
    have h := hg.2
    rw [ea, eb, nI_toInt (by omega), nI_toInt (by omega)] at h
    omega
  rw [ea, eb, ec]
  exact t_xor a ha b hba c hc (by rw [← ea, ← ec]; exact hb)
theorem t_bit : ∀ x : Int32, (x &&& 1 = 0 ∨ x &&& 1 = 1) := by
  intro x
  have h : (x &&& 1).toBitVec = x.toBitVec &&& 1#32 := rfl
  have h2 : (x.toBitVec &&& 1#32).toNat < 2 := by
    rw [BitVec.toNat_and]
    exact Nat.lt_of_le_of_lt Nat.and_le_right (by decide)
  rcases (show (x.toBitVec &&& 1#32).toNat = 0 ∨ (x.toBitVec &&& 1#32).toNat = 1 by omega) with q | q
  · left
    apply Int32.toBitVec_inj.mp
    rw [h]
    exact BitVec.eq_of_toNat_eq q
  · right
    apply Int32.toBitVec_inj.mp
    rw [h]
    exact BitVec.eq_of_toNat_eq q
theorem q_there (v : Mm) (i : Nat) (g : Int32) : g_X2_isThere v i g = some (((v 10 i 6) >>> (g &&& 31)) &&& 1) := by
  unfold g_X2_isThere
  rcases t_bit ((v 10 i 6) >>> (g &&& 31)) with q | q
  · rw [q, if_neg (by decide)]
  · rw [q, if_pos rfl]
theorem q_has (v : Mm) (s g : Int32) : g_X8_has v s g = some ((s >>> (g &&& 31)) &&& 1) := by
  unfold g_X8_has
  rcases t_bit (s >>> (g &&& 31)) with q | q
  · rw [q, if_neg (by decide)]
  · rw [q, if_pos rfl]
theorem q_bit {v : Mm} {r : Int32} (h : r = 0 ∨ r = 1) : g_X7_bit v r = some r := by
  unfold g_X7_bit
  rcases h with rfl | rfl
  · rfl
  · rfl
theorem r_dismiss {vx vm : Mm} (hX : PW rgX vx) (h : GB vx vm) (a1 a2 : Int32) : rel (g_X7_dismiss vx a1 a2) (g_X8_dismiss vm a1 a2) (actQ vx vm) := by
  have hw : (0 : Int) ≤ (vx 6 0 7).toInt ∧ (vx 6 0 7).toInt ≤ (4 : Int) := hX 6 0 7
  have hth : (0 : Int) ≤ (vx 10 0 6).toInt ∧ (vx 10 0 6).toInt ≤ (15 : Int) := hX 10 0 6
  have ew : vx 6 0 7 = vm 36 0 4 := h.1.2.2.2.1
  have et : vx 10 0 6 = vm 36 0 6 := h.2.1.2.2.1
  unfold g_X7_dismiss g_X8_dismiss
  rw [bx_guard, bm_guard vm (by rw [← ew]; exact hw.1), rng3, b_in, ← ew, q_there, tc_6, ← et]
  refine rel_ite Iff.rfl (fun c1 => ?_) (fun _ => rel_some (actQ_same h))
  refine rel_ite Iff.rfl (fun _ => ?_) (fun _ => rel_some (actQ_same h))
  show rel (Option.bind (g_X7_bit vx _) _) _ _
  rw [q_bit (t_bit _)]
  refine rel_ite Iff.rfl (fun _ => rel_some (actQ_same h)) (fun _ => ?_)
  refine rel_note h (fun z w g p2 p3 => rel_letL (fun z1 e1 => rel_letR (fun w1 e2 => ?_)))
  obtain ⟨m1, m2, m3, m4, m5, m6, m7, m8⟩ := id g.2.1
  have z6 : z 10 0 6 = vx 10 0 6 := p2 10 0 6 (by omega) (by decide)
  have w6 : w 36 0 6 = vx 10 0 6 := by rw [p3 36 0 6 (by decide) (by omega)]; exact et.symm
  have w4 : w 36 0 4 = vx 6 0 7 := by rw [p3 36 0 4 (by decide) (by omega)]; exact ew.symm
  rw [z6] at e1
  rw [w6] at e2
  have xt : ∀ t i j, ¬ (t = 10 ∧ i = 0 ∧ j = 6) → z1 t i j = z t i j := fun t i j q => by rw [e1]; unfold up3; exact if_neg q
  have mt : ∀ j, j ≠ 6 → w1 36 0 j = w 36 0 j := fun j q => by rw [e2]; exact up3_j q
  have bb := xor_rg hw c1 hth (by have q := m8; rw [w6, w4] at q; exact q)
  have z16 : z1 10 0 6 = vx 10 0 6 ^^^ ((1 : Int32) <<< (a1 &&& 31)) := by rw [e1]; exact up3_s
  have w16 : w1 36 0 6 = vx 10 0 6 ^^^ ((1 : Int32) <<< (a1 &&& 31)) := by rw [e2]; exact up3_s
  have wt : ∀ t i j, t ≠ 36 → w1 t i j = w t i j := fun t i j q => by rw [e2]; exact up3_t q
  refine rel_some (actQ_mk ?_ ⟨g.1.sc (fun t j _ _ => xt t 0 j (by omega)) (fun j hj => mt j (by unfold stc at hj; omega)), g.2.1.sc (fun t j _ _ => xt t 0 j (by omega)) (fun j _ => mt j (by omega)) (fun _ j _ => mt j (by omega)) ?_ ?_ ?_ ?_ ?_ ?_ ?_, g.2.2.sc (fun t j _ _ => xt t 0 j (by omega)) (fun j _ => xt 15 0 j (by omega)) (fun t i j _ _ _ => xt t i j (by omega)) (wt 30 0 17 (by decide)) (fun j => wt 39 0 j (by decide))⟩ ?_ ?_)
  · show z1 10 0 6 = w1 36 0 6
    rw [z16, w16]
  · rw [xt 10 0 5 (by omega), mt 0 (by omega)]; exact m1
  · rw [xt 10 0 4 (by omega), mt 5 (by omega)]; exact m2
  · rw [z16, w16]
  · rw [xt 10 0 7 (by omega), mt 7 (by omega)]; exact m4
  · intro _
    rw [mt 7 (by omega)]; exact Int.le_refl _
  · rw [w16]; exact bb.1
  · rw [w16, w4]; exact bb.2
  · intro t i j h1 h2
    show z1 t i j = vx t i j
    rw [xt t i j (by omega)]; exact p2 t i j (by omega) h2
  · intro t i j h1 h2 h3
    show w1 t i j = vm t i j
    rw [e2, up3_t h2]; exact p3 t i j h1 h3
/-! nights -/
theorem p_forgets (v : Mm) : pk (g_X8_forgets v) (fun z => z 36 0 7 = 0 ∧ (∀ j, j < 38 → j ≠ 7 → z 36 0 j = v 36 0 j) ∧ ∀ t i j, t ≠ 36 → z t i j = v t i j) := by
  have e65 : (65 : Int32).toInt = 65 := by decide
  have e1 : (1 : Int32).toInt = 1 := by decide
  have loop : ∀ (n : Nat) (w : Mm) (x : Int32) (k : Nat), x.toInt = (k : Int) → 38 ≤ k → k ≤ 65 → ((∀ j, j < 38 → w 36 0 j = v 36 0 j) ∧ ∀ t i j, t ≠ 36 → w t i j = v t i j) → pk (g_X8_forgets_L3 n w x) (fun z => z 36 0 7 = 0 ∧ (∀ j, j < 38 → j ≠ 7 → z 36 0 j = v 36 0 j) ∧ ∀ t i j, t ≠ 36 → z t i j = v t i j) := by
    intro n
    induction n with
    | zero => intro w x k _ _ _ _ b e; cases e
    | succ n ih =>
      intro w x k hx h38 hk hw
      show pk (b_X8_forgets_L3 (g_X8_forgets_L3 n) w x) _
      unfold b_X8_forgets_L3
      rw [tc_7]
      refine pk_ite _ (fun c => ?_) (fun c => ?_)
      · refine pk_let (fun z ez => pk_some ⟨?_, fun j h1 h2 => ?_, fun t i j h1 => ?_⟩)
        · rw [ez]; exact up3_s
        · rw [ez, up3_j h2]; exact hw.1 j h1
        · rw [ez, up3_t h1]; exact hw.2 t i j h1
      · have := i_nle c
        refine pk_grd _ (fun _ => pk_let (fun w1 ew1 => ?_))
        have hc : Int32.toNatClampNeg x = k := by rw [tcn]; omega
        rw [hc] at ew1
        have e2 := sp_addx x 1 (by omega)
        refine ih w1 (x + 1) (k + 1) (by omega) (by omega) (by omega) ⟨fun j hj => ?_, fun t i j hn => ?_⟩
        · rw [ew1, up3_j (by omega)]; exact hw.1 j hj
        · rw [ew1, up3_t hn]; exact hw.2 t i j hn
  exact loop 2000 v 38 38 (by decide) (by omega) (by omega) ⟨fun _ _ => rfl, fun _ _ _ _ => rfl⟩
/-- the word of a night -/
def scr (start step shrove words night : Int32) : Int32 := if night - night / 7 * 7 = shrove then 0 else (start + (step * night)) - (start + (step * night)) / words * words
theorem q_secretOf (v : Mm) (n : Int32) : pk (g_X8_secretOf_36 v n) (fun r => r = scr (v 36 0 0) (v 36 0 1) (v 36 0 2) (v 36 0 3) n) := by
  unfold g_X8_secretOf_36 scr
  rw [tc_0, tc_1, tc_2, tc_3]
  exact pk_ite _ (fun c => pk_some (by rw [if_pos c])) (fun c => pk_grd _ (fun _ => pk_some (by rw [if_neg c])))
theorem q_rest (v : Mm) (a b : Int32) (hb : 0 < b.toInt) : g_X7_rest v a b = some (a - a / b * b) := by
  have e0 : (0 : Int32).toInt = 0 := by decide
  unfold g_X7_rest
  rw [if_neg (fun q => by have := i_le q; omega), if_neg (nz (by omega))]
theorem q_secretBy (v : Mm) (a1 a2 a3 a4 : Int32) (hw : 0 < (v 6 0 6).toInt) : g_X2_secretBy v 0 a1 a2 a3 a4 = some (scr a1 a2 a3 (v 6 0 6) a4) := by
  unfold g_X2_secretBy scr
  rw [q_rest v _ _ hw]
  by_cases c : a4 - a4 / 7 * 7 = a3
  · rw [if_pos c, if_pos c]
  · rw [if_neg c, if_neg c]; rfl
theorem q_secretIn (v : Mm) (d : Int32) (hw : 0 < (v 6 0 6).toInt) : g_X2_secretIn v 0 d = some (scr (v 10 0 5) (v 6 0 4) (v 6 0 5) (v 6 0 6) (v 10 0 4 + d)) := by
  unfold g_X2_secretIn
  rw [q_secretBy v _ _ _ _ hw]; rfl
theorem GB.scr {vx vm : Mm} (h : GB vx vm) (n : Int32) : scr (vm 36 0 0) (vm 36 0 1) (vm 36 0 2) (vm 36 0 3) n = scr (vx 10 0 5) (vx 6 0 4) (vx 6 0 5) (vx 6 0 6) n := by
  have a := h.2.1.1
  have b := h.1.1
  have c := h.1.2.1
  have d := h.1.2.2.1
  simp only [Nat.zero_add] at a b c d
  rw [a, b, c, d]
theorem ACX.tr {u v w : Mm} (h : ACX u v) (k : ACX v w) : ACX u w := fun t i j h1 h2 => (k t i j h1 h2).trans (h t i j h1 h2)
theorem ACM.tr {u v w : Mm} (h : ACM u v) (k : ACM v w) : ACM u w := fun t i j h1 h2 h3 => (k t i j h1 h2 h3).trans (h t i j h1 h2 h3)
theorem nights_loop {ux um : Mm} {a1 : Int32} (hn : a1.toInt ≤ 24) (h9 : (ux 10 0 4).toInt + a1.toInt ≤ 999) (hn0 : 0 ≤ (ux 10 0 4).toInt) : ∀ (n m : Nat) (vx vm : Mm) (x : Int32), GB vx vm → 0 < (vx 6 0 6).toInt → 0 ≤ x.toInt → x.toInt ≤ a1.toInt → (vx 10 0 4).toInt = (ux 10 0 4).toInt + x.toInt → ACX ux vx → ACM um vm → rel (g_X7_nights_L47 a1 n vx x) (g_X8_nights_L42 a1 m vm x) (actQ ux um) := by
  have e1 : (1 : Int32).toInt = 1 := by decide
  have e0 : (0 : Int32).toInt = 0 := by decide
  intro n
  induction n with
  | zero => intro m vx vm x _ _ _ _ _ _ _ a b e; cases e
  | succ n ih =>
    intro m vx vm x h hw hx0 hx1 hni fx fm
    cases m with
    | zero => intro a b _ e; cases e
    | succ m =>
      show rel (b_X7_nights_L47 (g_X7_nights_L47 a1 n) a1 vx x) (b_X8_nights_L42 (g_X8_nights_L42 a1 m) a1 vm x) _
      unfold b_X7_nights_L47 b_X8_nights_L42
      rw [tc_5]
      refine rel_ite Iff.rfl (fun _ => ?_) (fun c => ?_)
      · rw [q_secretIn vx 0 hw]
        refine rel_letL (fun r1 er1 => rel_bindR (q_secretOf vm _) (fun r2 er2 => rel_some ⟨?_, h, fx, fm⟩))
        show r1 = r2
        have e5 : vx 10 0 4 = vm 36 0 5 := h.2.1.2.1
        rw [er1, er2, h.scr, Int32.add_zero, e5]
      · have c' := i_nle c
        refine rel_note h (fun z w g p2 p3 => ?_)
        have z4 : z 10 0 4 = vx 10 0 4 := p2 10 0 4 (by omega) (by decide)
        have w5 : w 36 0 5 = vx 10 0 4 := by rw [p3 36 0 5 (by decide) (by omega)]; exact h.2.1.2.1.symm
        unfold g_X4_goBy
        rw [z4, w5]
        refine rel_letR (fun w1 ew1 => rel_bindR (p_forgets w1) (fun w2 hw2 => ?_))
        obtain ⟨f1, f2, f3⟩ := hw2
        show rel (g_X7_nights_L47 a1 n (up3 (up3 z 10 0 4 (vx 10 0 4 + 1)) 10 0 7 0) (x + 1)) _ _
        obtain ⟨y, ey⟩ : ∃ y, y = up3 (up3 z 10 0 4 (vx 10 0 4 + 1)) 10 0 7 0 := ⟨_, rfl⟩
        rw [← ey]
        obtain ⟨m1, m2, m3, m4, m5, m6, m7, m8⟩ := id g.2.1
        have s1 := sp_addx (vx 10 0 4) 1 (by omega)
        have s2 := sp_addx x 1 (by omega)
        have y4 : y 10 0 4 = vx 10 0 4 + 1 := by rw [ey, up3_j (by decide)]; exact up3_s
        have y7 : y 10 0 7 = 0 := by rw [ey]; exact up3_s
        have xt : ∀ t i j, ¬ (t = 10 ∧ i = 0 ∧ (j = 4 ∨ j = 7)) → y t i j = z t i j := fun t i j q => by
          rw [ey]; unfold up3
          rw [if_neg (fun k => q ⟨k.1, k.2.1, Or.inr k.2.2⟩), if_neg (fun k => q ⟨k.1, k.2.1, Or.inl k.2.2⟩)]
        have mt : ∀ j, j < 38 → j ≠ 7 → j ≠ 5 → w2 36 0 j = w 36 0 j := fun j h1 h2 h3 => by rw [f2 j h1 h2, ew1]; exact up3_j h3
        have w25 : w2 36 0 5 = vx 10 0 4 + 1 := by rw [f2 5 (by omega) (by omega), ew1]; exact up3_s
        have g2 : GB y w2 := by
          refine ⟨g.1.sc (fun t j _ _ => xt t 0 j (by omega)) (fun j hj => mt j (by unfold stc at hj; omega) (by unfold stc at hj; omega) (by unfold stc at hj; omega)), g.2.1.sc (fun t j _ _ => xt t 0 j (by omega)) (fun j hj => mt j (by omega) (by omega) (by omega)) (fun hp => absurd hp (by rw [f1, e0]; omega)) ?_ ?_ ?_ ?_ ?_ ?_ ?_, g.2.2.sc (fun t j _ _ => xt t 0 j (by omega)) (fun j _ => xt 15 0 j (by omega)) (fun t i j _ _ _ => xt t i j (by omega)) ?_ (fun j => ?_)⟩
          · rw [xt 10 0 5 (by omega), mt 0 (by omega) (by omega) (by omega)]; exact m1
          · rw [y4, w25]
          · rw [xt 10 0 6 (by omega), mt 6 (by omega) (by omega) (by omega)]; exact m3
          · rw [y7, f1]
          · intro hp
            rw [f1, e0] at hp
            exact absurd hp (by omega)
          · rw [mt 6 (by omega) (by omega) (by omega)]; exact m7
          · rw [mt 6 (by omega) (by omega) (by omega)]; exact m8
          · rw [f3 _ _ _ (by decide), ew1]; exact up3_t (by decide)
          · rw [f3 _ _ _ (by decide), ew1]; exact up3_t (by decide)
        refine ih m y w2 (x + 1) g2 ?_ (by omega) (by omega) (by rw [y4]; omega) (fx.tr (fun t i j h1 h2 => ?_)) (fm.tr (fun t i j h1 h2 h3 => ?_))
        · rw [xt 6 0 6 (by omega), p2 6 0 6 (by omega) (by decide)]; exact hw
        · rw [xt t i j (by omega)]; exact p2 t i j (by omega) h2
        · rw [f3 t i j h2, ew1, up3_t h2]; exact p3 t i j h1 h3
theorem r_nights {vx vm : Mm} (hX : PW rgX vx) (h : GB vx vm) (a1 : Int32) : rel (g_X7_nights vx a1) (g_X8_nights vm a1) (actQ vx vm) := by
  have e1 : (1 : Int32).toInt = 1 := by decide
  have e0 : (0 : Int32).toInt = 0 := by decide
  have e24 : (24 : Int32).toInt = 24 := by decide
  have e999 : (999 : Int32).toInt = 999 := by decide
  have hw : (0 : Int) ≤ (vx 6 0 6).toInt ∧ (vx 6 0 6).toInt ≤ (6 : Int) := hX 6 0 6
  have hn : (0 : Int) ≤ (vx 10 0 4).toInt ∧ (vx 10 0 4).toInt ≤ (999 : Int) := hX 10 0 4
  have ew : vx 6 0 6 = vm 36 0 3 := h.1.2.2.1
  have en : vx 10 0 4 = vm 36 0 5 := h.2.1.2.1
  unfold g_X7_nights g_X8_nights
  rw [bx_nog, bm_isg vm (by rw [← ew]; exact hw.1), b_in, ← ew, tc_5, ← en]
  refine rel_ite Iff.rfl (fun _ => rel_some (actQ_same h)) (fun c0 => ?_)
  have c0' : ¬ (vx 6 0 6).toInt = 0 := i_ne c0
  by_cases c1 : a1 < 1
  · have := i_lt c1
    rw [if_pos c1, if_neg (by omega)]
    exact rel_some (actQ_same h)
  · have k1 := i_nlt c1
    rw [if_neg c1]
    by_cases c2 : a1 ≤ 24
    · have k2 := i_le c2
      rw [if_pos c2, if_pos (show (1 : Int32).toInt ≤ a1.toInt ∧ a1.toInt ≤ (24 : Int32).toInt by omega)]
      refine rel_ite Iff.rfl (fun c3 => ?_) (fun _ => rel_some (actQ_same h))
      have k3 := i_le c3
      have s := sp_addx (vx 10 0 4) a1 (by omega)
      exact nights_loop (by omega) (by omega) hn.1 2000 2000 vx vm 0 h (by omega) (by omega) (by omega) (by omega) (fun _ _ _ _ _ => rfl) (fun _ _ _ _ _ _ => rfl)
    · have k2 := i_nle c2
      rw [if_neg c2, if_neg (by omega)]
      exact rel_some (actQ_same h)
/-! images -/
def RIm (vx vm : Mm) : Prop := ∀ k, k < 2 → ((vx 6 (2 + k) 6 = 0 ∧ vm 41 0 k = 0) ∨ (vx 6 (2 + k) 6 ≠ 0 ∧ vm 41 0 k ≠ 0 ∧ RSt vx (2 + k) vm 40 (65 * k) ∧ RMo vx (2 + k) vm 40 (65 * k)))
theorem RIm.sc {vx wx vm wm : Mm} (h : RIm vx vm) (hx : ∀ t i j, 6 ≤ t → t ≤ 14 → (i = 2 ∨ i = 3) → wx t i j = vx t i j) (h40 : ∀ j, wm 40 0 j = vm 40 0 j) (h41 : ∀ j, wm 41 0 j = vm 41 0 j) : RIm wx wm := by
  intro k hk
  rw [hx 6 (2 + k) 6 (by omega) (by omega) (by omega), h41]
  rcases h k hk with q | ⟨q1, q2, q3, q4⟩
  · exact Or.inl q
  · refine Or.inr ⟨q1, q2, q3.mv (fun j _ _ => hx 6 _ j (by omega) (by omega) (by omega)) (fun j _ => hx 7 _ j (by omega) (by omega) (by omega)) (fun j _ => hx 8 _ j (by omega) (by omega) (by omega)) (fun j _ => hx 9 _ j (by omega) (by omega) (by omega)) (fun j _ => h40 _), q4.mv (fun j _ _ => hx 10 _ j (by omega) (by omega) (by omega)) (fun j _ => hx 11 _ j (by omega) (by omega) (by omega)) (fun j _ => hx 12 _ j (by omega) (by omega) (by omega)) (fun j _ => hx 13 _ j (by omega) (by omega) (by omega)) (fun j _ => hx 14 _ j (by omega) (by omega) (by omega)) (fun j _ => h40 _)⟩
/-- all of the gate on both sides -/
def GA (vx vm : Mm) : Prop := GB vx vm ∧ RIm vx vm ∧ vx 0 0 7 = vm 30 0 7
def gaQ (a b : Int32 × Mm) : Prop := a.1 = b.1 ∧ GA a.2 b.2
theorem gaQ_act {vx vm : Mm} (h : GA vx vm) {a b : Int32 × Mm} (k : actQ vx vm a b) : gaQ a b := by
  obtain ⟨k1, k2, k3, k4⟩ := k
  refine ⟨k1, k2, h.2.1.sc (fun t i j h1 h2 h3 => k3 t i j (by omega) (by omega)) (fun j => k4 40 0 j (by decide) (by decide) (by omega)) (fun j => k4 41 0 j (by decide) (by decide) (by omega)), ?_⟩
  rw [k3 0 0 7 (by omega) (by decide), k4 30 0 7 (by decide) (by decide) (by omega)]; exact h.2.2
theorem r_image {vx vm : Mm} (hX : PW rgX vx) (h : GA vx vm) (a1 : Int32) : rel (g_X7_image vx a1) (g_X8_image vm a1) gaQ := by
  have e0 : (0 : Int32).toInt = 0 := by decide
  have e1 : (1 : Int32).toInt = 1 := by decide
  have e2 : (2 : Int32).toInt = 2 := by decide
  have e65 : (65 : Int32).toInt = 65 := by decide
  have hw : (0 : Int) ≤ (vx 6 0 6).toInt ∧ (vx 6 0 6).toInt ≤ (6 : Int) := hX 6 0 6
  have ew : vx 6 0 6 = vm 36 0 3 := h.1.1.2.2.1
  unfold g_X7_image g_X8_image
  rw [rng4, bx_nog, b_in, bm_isg vm (by rw [← ew]; exact hw.1), ← ew]
  refine rel_ite (by omega) (fun c1 => ?_) (fun _ => rel_some ⟨rfl, h⟩)
  refine rel_ite Iff.rfl (fun _ => rel_some ⟨rfl, h⟩) (fun c2 => ?_)
  refine rel_grdL _ (fun _ => ?_)
  have ca := tcn a1
  have s := sp_cmulx 65 a1 65 e65 (by omega)
  refine rel_bindL (p_gt vx (2 + Int32.toNatClampNeg a1) 0) (fun z hz => ?_)
  refine rel_bindR (p_cp3640 vm 0 ((65 : Int32) * a1) 0 (65 * Int32.toNatClampNeg a1) (by decide) (by rw [s]; omega) (by omega) (by omega)) (fun w hw2 => ?_)
  refine rel_grdR _ (fun _ => rel_letR (fun w1 ew1 => rel_some ⟨rfl, ?_⟩))
  obtain ⟨⟨z1, z2, z3, z4⟩, ⟨z5, z6, z7, z8, z9⟩, z10⟩ := hz
  obtain ⟨v1, v2⟩ := hw2
  show GA z w1
  have w1t : ∀ t i j, t ≠ 41 → w1 t i j = w t i j := fun t i j q => by rw [ew1]; exact up3_t q
  have w36 : ∀ j, w1 36 0 j = vm 36 0 j := fun j => by rw [w1t _ _ _ (by decide)]; exact v2 _ _ _ (by omega)
  refine ⟨⟨h.1.1.sc (fun t j h1 h2 => z10 t 0 j (by omega)) (fun j _ => w36 j), h.1.2.1.mv (fun j _ _ => z10 10 0 j (by omega)) (fun j _ => z10 11 0 j (by omega)) (fun j _ => z10 12 0 j (by omega)) (fun j _ => z10 13 0 j (by omega)) (fun j _ => z10 14 0 j (by omega)) (fun j _ => w36 _), h.1.2.2.sc (fun t j h1 h2 => z10 t 0 j (by omega)) (fun j _ => z10 15 0 j (by omega)) (fun t i j h1 h2 h3 => z10 t i j (by omega)) (by rw [w1t _ _ _ (by decide)]; exact v2 _ _ _ (by omega)) (fun j => by rw [w1t _ _ _ (by decide)]; exact v2 _ _ _ (by omega))⟩, fun k hk => ?_, ?_⟩
  · by_cases q : k = Int32.toNatClampNeg a1
    · subst q
      refine Or.inr ⟨?_, ?_, h.1.1.mv (fun j h1 h2 => z1 j h1 h2) (fun j h1 => z2 j h1) (fun j h1 => z3 j h1) (fun j h1 => z4 j h1) (fun j hj => ?_), h.1.2.1.mv (fun j h1 h2 => z5 j h1 h2) (fun j h1 => z6 j h1) (fun j h1 => z7 j h1) (fun j h1 => z8 j h1) (fun j h1 => z9 j h1) (fun j hj => ?_)⟩
      · rw [z1 6 (by omega) (by omega)]; exact c2
      · rw [ew1, up3_s]; decide
      · rw [w1t _ _ _ (by decide), v1 j (by unfold stc at hj; omega)]
      · rw [w1t _ _ _ (by decide), v1 j hj]
    · have zz : ∀ t j, z t (2 + k) j = vx t (2 + k) j := fun t j => z10 t (2 + k) j (by omega)
      have w40 : ∀ j, j < 65 → w1 40 0 (65 * k + j) = vm 40 0 (65 * k + j) := fun j hj => by rw [w1t _ _ _ (by decide)]; exact v2 _ _ _ (by omega)
      rw [zz, ew1, up3_j q, v2 41 0 k (by omega)]
      rcases h.2.1 k hk with p | ⟨p1, p2, p3, p4⟩
      · exact Or.inl p
      · rw [← ew1]
        refine Or.inr ⟨p1, p2, p3.mv (fun j _ _ => zz 6 j) (fun j _ => zz 7 j) (fun j _ => zz 8 j) (fun j _ => zz 9 j) (fun j hj => w40 j (by unfold stc at hj; omega)), p4.mv (fun j _ _ => zz 10 j) (fun j _ => zz 11 j) (fun j _ => zz 12 j) (fun j _ => zz 13 j) (fun j _ => zz 14 j) w40⟩
  · rw [z10 0 0 7 (by omega), w1t _ _ _ (by decide), v2 _ _ _ (by omega)]; exact h.2.2
theorem r_restore {vx vm : Mm} (h : GA vx vm) (a1 : Int32) : rel (g_X7_restore vx a1) (g_X8_restore vm a1) gaQ := by
  have e0 : (0 : Int32).toInt = 0 := by decide
  have e1 : (1 : Int32).toInt = 1 := by decide
  have e2 : (2 : Int32).toInt = 2 := by decide
  have e65 : (65 : Int32).toInt = 65 := by decide
  unfold g_X7_restore g_X8_restore
  rw [rng4, b_in]
  refine rel_ite (by omega) (fun c1 => ?_) (fun _ => rel_some ⟨rfl, h⟩)
  have ca := tcn a1
  have s := sp_cmulx 65 a1 65 e65 (by omega)
  refine rel_grdL _ (fun _ => rel_grdR _ (fun _ => ?_))
  have hi := h.2.1 (Int32.toNatClampNeg a1) (by omega)
  refine rel_ite ?_ (fun _ => rel_some ⟨rfl, h⟩) (fun c2 => ?_)
  · rcases hi with ⟨p1, p2⟩ | ⟨p1, p2, -⟩
    · exact ⟨fun _ => p2, fun _ => p1⟩
    · exact ⟨fun q => absurd q p1, fun q => absurd q p2⟩
  · rcases hi with ⟨p1, -⟩ | ⟨-, -, p3, p4⟩
    · exact absurd p1 c2
    refine rel_grdL _ (fun _ => ?_)
    refine rel_bindL (p_gt vx 0 (2 + Int32.toNatClampNeg a1)) (fun z hz => ?_)
    refine rel_bindR (p_cp4036 vm ((65 : Int32) * a1) 0 (65 * Int32.toNatClampNeg a1) 0 (by rw [s]; omega) (by decide) (by omega) (by omega)) (fun w hw2 => ?_)
    obtain ⟨⟨z1, z2, z3, z4⟩, ⟨z5, z6, z7, z8, z9⟩, z10⟩ := hz
    obtain ⟨v1, v2⟩ := hw2
    unfold g_X0_forget
    refine rel_letL (fun z' ez' => rel_letR (fun w1 ew1 => rel_some ⟨rfl, ?_⟩))
    show GA z' w1
    have zt : ∀ t i j, t ≠ 15 → z' t i j = z t i j := fun t i j q => by rw [ez']; exact up3_t q
    have wt : ∀ t i j, t ≠ 30 → w1 t i j = w t i j := fun t i j q => by rw [ew1]; exact up3_t q
    have w36 : ∀ j, j < 65 → w1 36 0 (0 + j) = vm 40 0 (65 * Int32.toNatClampNeg a1 + j) := fun j hj => by rw [wt _ _ _ (by decide)]; exact v1 j hj
    have z152 : z' 15 0 2 = 0 := by rw [ez']; exact up3_s
    have z151 : z' 15 0 1 = vx 15 0 1 := by rw [ez', up3_j (by decide)]; exact z10 _ _ _ (by omega)
    have cz : Int32.toNatClampNeg (z' 15 0 2) = 0 := by rw [z152]; decide
    refine ⟨⟨p3.mv (fun j h1 h2 => by rw [zt _ _ _ (by decide)]; exact z1 j h1 h2) (fun j h1 => by rw [zt _ _ _ (by decide)]; exact z2 j h1) (fun j h1 => by rw [zt _ _ _ (by decide)]; exact z3 j h1) (fun j h1 => by rw [zt _ _ _ (by decide)]; exact z4 j h1) (fun j hj => w36 j (by unfold stc at hj; omega)), p4.mv (fun j h1 h2 => by rw [zt _ _ _ (by decide)]; exact z5 j h1 h2) (fun j h1 => by rw [zt _ _ _ (by decide)]; exact z6 j h1) (fun j h1 => by rw [zt _ _ _ (by decide)]; exact z7 j h1) (fun j h1 => by rw [zt _ _ _ (by decide)]; exact z8 j h1) (fun j h1 => by rw [zt _ _ _ (by decide)]; exact z9 j h1) w36, ⟨?_, ?_, ?_, fun k hk => ?_⟩⟩, h.2.1.sc (fun t i j h1 h2 h3 => ?_) (fun j => ?_) (fun j => ?_), ?_⟩
    · rw [z152, ew1, up3_s]
    · rw [z151]; exact h.1.2.2.2.1
    · rw [z152]; decide
    · rw [cz] at hk; exact absurd hk (Nat.not_lt_zero k)
    · rw [zt _ _ _ (by omega)]; exact z10 t i j (by omega)
    · rw [wt _ _ _ (by decide)]; exact v2 _ _ _ (by omega)
    · rw [wt _ _ _ (by decide)]; exact v2 _ _ _ (by omega)
    · rw [zt _ _ _ (by decide), z10 _ _ _ (by omega), ew1, up3_j (by decide), v2 _ _ _ (by omega)]; exact h.2.2
